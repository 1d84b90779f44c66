abbrev rmX10_cut_ : Room := { frames := 0, cells := 0, slots := 0, locals := 0 }
set_option maxRecDepth 100000 in
set_option maxHeartbeats 4000000 in
theorem c_X10_cut_ (l : Launch) (G : rs_G) (p0 : Int64) (p1 : Int64) (r0 : Int64) (h : f_X10_cut_ p0 p1 = some r0) : rs_Cl l yX10_cut_ wsX10_cut_ rmX10_cut_ G [.long p0, .long p1] [] (fun (_ : Unit) => []) r0 := by
  refine rs_enter_l (cc := cX10_cut_) (maxL := 4) (by decide) rfl (Nat.le_of_ble_eq_true rfl) (fun p e s m args below meth c A Q ls E ret hP hD hS hA hl => ?_)
  obtain ⟨hx, hb, hml, hown, hts, hK⟩ := E
  have hown : s.vm.findClass RX10 = some m.cls := hown
  have hl : lv_has ls 4 [(0, .long p0), (2, .long p1)] := hl
  have ret : ∀ (v0 : Int64) (u : Unit) (H : Heap) (locs : List Loc) (pc : Nat) (ls : Array Slot), some v0 = some r0 → va_P G.1 vwCl [] H → va_S A s.heap H locs → decode cX10_cut_ pc = .ok (.lreturn, 1) → W p l e rmX10_cut_ s m args below meth c H locs 0 0 Q (F0 m pc ls [.long v0]) := by
    intro v0 u H locs pc ls hz
    cases hz
    exact ret u H locs pc ls
  unfold f_X10_cut_ at h
  refine lv_lload_n hx hb dX10_cut__0 rfl (lv_at hl 1 rfl) ?_
  refine lv_lconst (v := 0) hx hb dX10_cut__1 (by decide) ?_
  refine W.lcmp hx hb dX10_cut__2 ?_
  refine lv_if_ne (tgt := 10) hx hb dX10_cut__3 (by decide) (fun hc => ?_) (fun hc => ?_)
  · have h := rs_neg hc h
    refine lv_lload_n hx hb dX10_cut__10 rfl (lv_at hl 0 rfl) ?_
    refine lv_lload_n hx hb dX10_cut__11 rfl (lv_at hl 1 rfl) ?_
    obtain ⟨hg, h⟩ := rs_gd h
    refine lv_ldiv hx hb dX10_cut__12 hg ?_
    exact ret _ () _ _ _ _ h hP hS dX10_cut__13
  have h := rs_pos hc h
  refine lv_lconst (v := 0) hx hb dX10_cut__6 (by decide) ?_
  refine lv_goto (tgt := 13) hx hb dX10_cut__7 (by decide) ?_
  exact ret _ () _ _ _ _ h hP hS dX10_cut__13
theorem uX10_dust_10 : ∀ w ∈ wsX100, w ∈ wsX10_dust := fun _ h => List.mem_cons_of_mem _ (List.mem_append_left _ (List.mem_append_left _ (List.mem_append_left _ (List.mem_append_left _ (List.mem_append_right _ h)))))
theorem uX10_dust_2 : ∀ w ∈ wsX20, w ∈ wsX10_dust := fun _ h => List.mem_cons_of_mem _ (List.mem_append_left _ (List.mem_append_left _ (List.mem_append_left _ (List.mem_append_right _ h))))
abbrev rmX10_dust : Room := { frames := 4, cells := 0, slots := 0, locals := 96 }
set_option maxRecDepth 100000 in
set_option maxHeartbeats 4000000 in
theorem c_X10_dust (l : Launch) (G : rs_G) (A_a0 : Nat) (A_a0_world : Nat) (A_a0_images : Nat) (A_a0_pad : Nat) (A_a0_story : Nat) (A_a0_walk : Nat) (A_a0_census : Nat) (A_a0_carrier : Nat) (A_a0_cloud : Nat) (A_a0_world_shadow : Nat) (A_a0_world_stock : Nat) (A_a0_world_sights : Nat) (A_a0_cloud_first : Nat) (A_a0_cloud_second : Nat) (A_a0_world_stock_cells : Nat) (v_a0_world_year : Int32) (v_a0_world_shadow_lands : Int32) (v_a0_world_shadow_wide : Int32) (v_a0_world_shadow_pace : Int32) (v_a0_world_shadow_age : Int32) (v_a0_world_shadow_slits : Int32) (v_a0_world_shadow_slitA : Int32) (v_a0_world_shadow_slitB : Int32) (v_a0_cloud_fed : Int64) (v_a0_cloud_whole : Int64) (v_a0_cloud_first : (Nat → Int64)) (v_a0_world_stock_cells : (Nat → Int32)) (v_a0_cloud_second : (Nat → Int64)) (p1 : Int32) (p2 : Int32) (p3 : Int32) (p4 : Int32) (N : Nat) (r0 : Int64) (o0 : Int64) (o1 : Int64) (h : f_X10_dust N p1 p2 p3 p4 v_a0_world_year v_a0_world_shadow_lands v_a0_world_shadow_wide v_a0_world_shadow_pace v_a0_world_shadow_age v_a0_world_shadow_slits v_a0_world_shadow_slitA v_a0_world_shadow_slitB v_a0_cloud_fed v_a0_cloud_whole v_a0_cloud_first v_a0_world_stock_cells v_a0_cloud_second = some (r0, o0, o1)) : rs_Cl l yX10_dust wsX10_dust rmX10_dust G [.ref A_a0, .int p1, .int p2, .int p3, .int p4] [(A_a0, .inr (10, [.ref A_a0_world, .ref A_a0_images, .ref A_a0_pad, .ref A_a0_story, .ref A_a0_walk, .ref A_a0_census, .ref A_a0_carrier, .ref A_a0_cloud])), (A_a0_world, .inr (9, [.ref A_a0_world_shadow, .ref A_a0_world_stock, .ref A_a0_world_sights, .int v_a0_world_year])), (A_a0_world_shadow, .inr (4, [.int v_a0_world_shadow_lands, .int v_a0_world_shadow_wide, .int v_a0_world_shadow_pace, .int v_a0_world_shadow_age, .int v_a0_world_shadow_slits, .int v_a0_world_shadow_slitA, .int v_a0_world_shadow_slitB])), (A_a0_cloud, .inr (2, [.ref A_a0_cloud_first, .ref A_a0_cloud_second, .long v_a0_cloud_fed, .long v_a0_cloud_whole])), (A_a0_cloud_first, .inl (G.2.2.1, 100, .inr (.inl v_a0_cloud_first))), (A_a0_world_stock, .inr (6, [.ref A_a0_world_stock_cells])), (A_a0_world_stock_cells, .inl (G.2.1, 36, .inl v_a0_world_stock_cells)), (A_a0_cloud_second, .inl (G.2.2.1, 100, .inr (.inl v_a0_cloud_second)))] (fun (u : ((Nat → Int64) × (Nat → Int64))) => [(A_a0, .inr (10, [.ref A_a0_world, .ref A_a0_images, .ref A_a0_pad, .ref A_a0_story, .ref A_a0_walk, .ref A_a0_census, .ref A_a0_carrier, .ref A_a0_cloud])), (A_a0_world, .inr (9, [.ref A_a0_world_shadow, .ref A_a0_world_stock, .ref A_a0_world_sights, .int v_a0_world_year])), (A_a0_world_shadow, .inr (4, [.int v_a0_world_shadow_lands, .int v_a0_world_shadow_wide, .int v_a0_world_shadow_pace, .int v_a0_world_shadow_age, .int v_a0_world_shadow_slits, .int v_a0_world_shadow_slitA, .int v_a0_world_shadow_slitB])), (A_a0_cloud, .inr (2, [.ref A_a0_cloud_first, .ref A_a0_cloud_second, .long o0, .long o1])), (A_a0_cloud_first, .inl (G.2.2.1, 100, .inr (.inl u.1))), (A_a0_world_stock, .inr (6, [.ref A_a0_world_stock_cells])), (A_a0_world_stock_cells, .inl (G.2.1, 36, .inl v_a0_world_stock_cells)), (A_a0_cloud_second, .inl (G.2.2.1, 100, .inr (.inl u.2)))]) r0 := by
  refine rs_enter_l (cc := cX10_dust) (maxL := 7) (by decide) rfl (Nat.le_of_ble_eq_true rfl) (fun p e s m args below meth c A Q ls E ret hP hD hS hA hl => ?_)
  obtain ⟨hx, hb, hml, hown, hts, hK⟩ := E
  have hown : s.vm.findClass RX10 = some m.cls := hown
  have hl : lv_has ls 7 [(0, .ref A_a0), (1, .int p1), (2, .int p2), (3, .int p3), (4, .int p4)] := hl
  have ret : ∀ (v0 : Int64) (w0 : Int64) (w1 : Int64) (u : ((Nat → Int64) × (Nat → Int64))) (H : Heap) (locs : List Loc) (pc : Nat) (ls : Array Slot), some (v0, w0, w1) = some (r0, o0, o1) → va_P G.1 vwCl [(A_a0, .inr (10, [.ref A_a0_world, .ref A_a0_images, .ref A_a0_pad, .ref A_a0_story, .ref A_a0_walk, .ref A_a0_census, .ref A_a0_carrier, .ref A_a0_cloud])), (A_a0_world, .inr (9, [.ref A_a0_world_shadow, .ref A_a0_world_stock, .ref A_a0_world_sights, .int v_a0_world_year])), (A_a0_world_shadow, .inr (4, [.int v_a0_world_shadow_lands, .int v_a0_world_shadow_wide, .int v_a0_world_shadow_pace, .int v_a0_world_shadow_age, .int v_a0_world_shadow_slits, .int v_a0_world_shadow_slitA, .int v_a0_world_shadow_slitB])), (A_a0_cloud, .inr (2, [.ref A_a0_cloud_first, .ref A_a0_cloud_second, .long w0, .long w1])), (A_a0_cloud_first, .inl (G.2.2.1, 100, .inr (.inl u.1))), (A_a0_world_stock, .inr (6, [.ref A_a0_world_stock_cells])), (A_a0_world_stock_cells, .inl (G.2.1, 36, .inl v_a0_world_stock_cells)), (A_a0_cloud_second, .inl (G.2.2.1, 100, .inr (.inl u.2)))] H → va_S A s.heap H locs → decode cX10_dust pc = .ok (.lreturn, 1) → W p l e rmX10_dust s m args below meth c H locs 0 0 Q (F0 m pc ls [.long v0]) := by
    intro v0 w0 w1 u H locs pc ls hz
    cases hz
    exact ret u H locs pc ls
  unfold f_X10_dust at h
  refine lv_aload_n hx hb dX10_dust_0 rfl (lv_at hl 0 rfl) ?_
  refine lv_iload_n hx hb dX10_dust_1 rfl (lv_at hl 1 rfl) ?_
  obtain ⟨x1, h2, h⟩ := rs_b1s h
  have h := h _ rfl
  refine rs_callVi (As := [.int p1]) (rest := []) ⟨hx, hb, hml, hown, hts⟩ (c_X10_hasLand l G A_a0 A_a0_world A_a0_images A_a0_pad A_a0_story A_a0_walk A_a0_census A_a0_carrier A_a0_cloud A_a0_world_shadow A_a0_world_stock A_a0_world_sights v_a0_world_year v_a0_world_shadow_lands v_a0_world_shadow_wide v_a0_world_shadow_pace v_a0_world_shadow_age v_a0_world_shadow_slits v_a0_world_shadow_slitA v_a0_world_shadow_slitB p1 x1 h2) (cwV 1 hts gX10_dust_X10_hasLand rfl rfl rfl (by decide +kernel) ⟨Nat.le_of_ble_eq_true rfl, Nat.le_of_ble_eq_true rfl⟩) dX10_dust_2 hK hP hD hS hA [0, 1, 2] rfl (by decide) rfl rfl (q0 := 0) (ci := 10) rfl rfl rfl hl.1 (lv_room (Nat.le_of_ble_eq_true rfl)) ⟨Nat.zero_le _, Nat.zero_le _⟩ (fun (_ : Unit) => [(A_a0, .inr (10, [.ref A_a0_world, .ref A_a0_images, .ref A_a0_pad, .ref A_a0_story, .ref A_a0_walk, .ref A_a0_census, .ref A_a0_carrier, .ref A_a0_cloud])), (A_a0_world, .inr (9, [.ref A_a0_world_shadow, .ref A_a0_world_stock, .ref A_a0_world_sights, .int v_a0_world_year])), (A_a0_world_shadow, .inr (4, [.int v_a0_world_shadow_lands, .int v_a0_world_shadow_wide, .int v_a0_world_shadow_pace, .int v_a0_world_shadow_age, .int v_a0_world_shadow_slits, .int v_a0_world_shadow_slitA, .int v_a0_world_shadow_slitB])), (A_a0_cloud, .inr (2, [.ref A_a0_cloud_first, .ref A_a0_cloud_second, .long v_a0_cloud_fed, .long v_a0_cloud_whole])), (A_a0_cloud_first, .inl (G.2.2.1, 100, .inr (.inl v_a0_cloud_first))), (A_a0_world_stock, .inr (6, [.ref A_a0_world_stock_cells])), (A_a0_world_stock_cells, .inl (G.2.1, 36, .inl v_a0_world_stock_cells)), (A_a0_cloud_second, .inl (G.2.2.1, 100, .inr (.inl v_a0_cloud_second)))]) (fun _ => rfl) (fun _ => rfl) (fun u2 H locs hP hD hS => ?_)
  refine lv_if_ne (tgt := 12) hx hb dX10_dust_5 (by decide) (fun hc => ?_) (fun hc => ?_)
  · have h := rs_neg hc h
    refine lv_iload_n hx hb dX10_dust_12 rfl (lv_at hl 2 rfl) ?_
    refine lv_iconst (v := 0) hx hb dX10_dust_13 (by decide) ?_
    refine lv_bipush (v := 10) hx hb dX10_dust_14 (by decide) ?_
    obtain ⟨x3, h4, h⟩ := rs_b1s h
    have h := h _ rfl
    refine rs_callSi (As := [.int p2, .int 0, .int 10]) (rest := []) ⟨hx, hb, hml, hown, hts⟩ (c_X10_within l G p2 0 10 x3 h4) (va_cwS 3 hts gX10_dust_X10_within rfl rfl rfl (by decide +kernel) ⟨Nat.le_of_ble_eq_true rfl, Nat.le_of_ble_eq_true rfl⟩) dX10_dust_16 hK hP hD hS hA [] rfl (by decide) rfl rfl hl.1 (lv_room (Nat.le_of_ble_eq_true rfl)) ⟨Nat.zero_le _, Nat.zero_le _⟩ (fun (_ : Unit) => [(A_a0, .inr (10, [.ref A_a0_world, .ref A_a0_images, .ref A_a0_pad, .ref A_a0_story, .ref A_a0_walk, .ref A_a0_census, .ref A_a0_carrier, .ref A_a0_cloud])), (A_a0_world, .inr (9, [.ref A_a0_world_shadow, .ref A_a0_world_stock, .ref A_a0_world_sights, .int v_a0_world_year])), (A_a0_world_shadow, .inr (4, [.int v_a0_world_shadow_lands, .int v_a0_world_shadow_wide, .int v_a0_world_shadow_pace, .int v_a0_world_shadow_age, .int v_a0_world_shadow_slits, .int v_a0_world_shadow_slitA, .int v_a0_world_shadow_slitB])), (A_a0_cloud, .inr (2, [.ref A_a0_cloud_first, .ref A_a0_cloud_second, .long v_a0_cloud_fed, .long v_a0_cloud_whole])), (A_a0_cloud_first, .inl (G.2.2.1, 100, .inr (.inl v_a0_cloud_first))), (A_a0_world_stock, .inr (6, [.ref A_a0_world_stock_cells])), (A_a0_world_stock_cells, .inl (G.2.1, 36, .inl v_a0_world_stock_cells)), (A_a0_cloud_second, .inl (G.2.2.1, 100, .inr (.inl v_a0_cloud_second)))]) (fun _ => rfl) (fun _ => rfl) (fun u4 H locs hP hD hS => ?_)
    refine lv_if_eq (tgt := 42) hx hb dX10_dust_19 (by decide) (fun hc => ?_) (fun hc => ?_)
    · have h := rs_pos hc h
      refine lv_ldc2 hx hb hown (hts (.constantLong RX10 236 (-1000000000000000002)) (List.mem_of_getElem? (i := 2) rfl)) dX10_dust_42 ?_
      exact ret _ _ _ (v_a0_cloud_first, v_a0_cloud_second) _ _ _ _ h hP hS dX10_dust_45
    have h := rs_neg hc h
    refine lv_iload_n hx hb dX10_dust_22 rfl (lv_at hl 3 rfl) ?_
    refine lv_iconst (v := 0) hx hb dX10_dust_23 (by decide) ?_
    refine lv_bipush (v := 12) hx hb dX10_dust_24 (by decide) ?_
    obtain ⟨x5, h6, h⟩ := rs_b1s h
    have h := h _ rfl
    refine rs_callSi (As := [.int p3, .int 0, .int 12]) (rest := []) ⟨hx, hb, hml, hown, hts⟩ (c_X10_within l G p3 0 12 x5 h6) (va_cwS 3 hts gX10_dust_X10_within rfl rfl rfl (by decide +kernel) ⟨Nat.le_of_ble_eq_true rfl, Nat.le_of_ble_eq_true rfl⟩) dX10_dust_26 hK hP hD hS hA [] rfl (by decide) rfl rfl hl.1 (lv_room (Nat.le_of_ble_eq_true rfl)) ⟨Nat.zero_le _, Nat.zero_le _⟩ (fun (_ : Unit) => [(A_a0, .inr (10, [.ref A_a0_world, .ref A_a0_images, .ref A_a0_pad, .ref A_a0_story, .ref A_a0_walk, .ref A_a0_census, .ref A_a0_carrier, .ref A_a0_cloud])), (A_a0_world, .inr (9, [.ref A_a0_world_shadow, .ref A_a0_world_stock, .ref A_a0_world_sights, .int v_a0_world_year])), (A_a0_world_shadow, .inr (4, [.int v_a0_world_shadow_lands, .int v_a0_world_shadow_wide, .int v_a0_world_shadow_pace, .int v_a0_world_shadow_age, .int v_a0_world_shadow_slits, .int v_a0_world_shadow_slitA, .int v_a0_world_shadow_slitB])), (A_a0_cloud, .inr (2, [.ref A_a0_cloud_first, .ref A_a0_cloud_second, .long v_a0_cloud_fed, .long v_a0_cloud_whole])), (A_a0_cloud_first, .inl (G.2.2.1, 100, .inr (.inl v_a0_cloud_first))), (A_a0_world_stock, .inr (6, [.ref A_a0_world_stock_cells])), (A_a0_world_stock_cells, .inl (G.2.1, 36, .inl v_a0_world_stock_cells)), (A_a0_cloud_second, .inl (G.2.2.1, 100, .inr (.inl v_a0_cloud_second)))]) (fun _ => rfl) (fun _ => rfl) (fun u6 H locs hP hD hS => ?_)
    refine lv_if_eq (tgt := 42) hx hb dX10_dust_29 (by decide) (fun hc => ?_) (fun hc => ?_)
    · have h := rs_pos hc h
      refine lv_ldc2 hx hb hown (hts (.constantLong RX10 236 (-1000000000000000002)) (List.mem_of_getElem? (i := 2) rfl)) dX10_dust_42 ?_
      exact ret _ _ _ (v_a0_cloud_first, v_a0_cloud_second) _ _ _ _ h hP hS dX10_dust_45
    have h := rs_neg hc h
    refine lv_iload hx hb dX10_dust_32 (lv_at hl 4 rfl) ?_
    refine lv_iconst (v := 0) hx hb dX10_dust_34 (by decide) ?_
    refine lv_iconst (v := 1) hx hb dX10_dust_35 (by decide) ?_
    obtain ⟨x7, h8, h⟩ := rs_b1s h
    have h := h _ rfl
    refine rs_callSi (As := [.int p4, .int 0, .int 1]) (rest := []) ⟨hx, hb, hml, hown, hts⟩ (c_X10_within l G p4 0 1 x7 h8) (va_cwS 3 hts gX10_dust_X10_within rfl rfl rfl (by decide +kernel) ⟨Nat.le_of_ble_eq_true rfl, Nat.le_of_ble_eq_true rfl⟩) dX10_dust_36 hK hP hD hS hA [] rfl (by decide) rfl rfl hl.1 (lv_room (Nat.le_of_ble_eq_true rfl)) ⟨Nat.zero_le _, Nat.zero_le _⟩ (fun (_ : Unit) => [(A_a0, .inr (10, [.ref A_a0_world, .ref A_a0_images, .ref A_a0_pad, .ref A_a0_story, .ref A_a0_walk, .ref A_a0_census, .ref A_a0_carrier, .ref A_a0_cloud])), (A_a0_world, .inr (9, [.ref A_a0_world_shadow, .ref A_a0_world_stock, .ref A_a0_world_sights, .int v_a0_world_year])), (A_a0_world_shadow, .inr (4, [.int v_a0_world_shadow_lands, .int v_a0_world_shadow_wide, .int v_a0_world_shadow_pace, .int v_a0_world_shadow_age, .int v_a0_world_shadow_slits, .int v_a0_world_shadow_slitA, .int v_a0_world_shadow_slitB])), (A_a0_cloud, .inr (2, [.ref A_a0_cloud_first, .ref A_a0_cloud_second, .long v_a0_cloud_fed, .long v_a0_cloud_whole])), (A_a0_cloud_first, .inl (G.2.2.1, 100, .inr (.inl v_a0_cloud_first))), (A_a0_world_stock, .inr (6, [.ref A_a0_world_stock_cells])), (A_a0_world_stock_cells, .inl (G.2.1, 36, .inl v_a0_world_stock_cells)), (A_a0_cloud_second, .inl (G.2.2.1, 100, .inr (.inl v_a0_cloud_second)))]) (fun _ => rfl) (fun _ => rfl) (fun u8 H locs hP hD hS => ?_)
    refine lv_if_ne (tgt := 46) hx hb dX10_dust_39 (by decide) (fun hc => ?_) (fun hc => ?_)
    · have h := rs_neg hc h
      refine lv_aload_n hx hb dX10_dust_46 rfl (lv_at hl 0 rfl) ?_
      refine va_get (D := G.1) (ci := 10) (v := .ref A_a0_cloud) (C := RX10) (T := TX10) (N := 8) hx hb hts uX10_dust_10 hown hK.1 hP 0 rfl rfl 7 (by decide) (hts (.fieldLink RX10 58 "RingShadow" "cloud" "LRingShadow$Cloud;") (List.mem_of_getElem? (i := 3) rfl)) (fun _ h9 => h9) rfl dX10_dust_47 ?_
      refine lv_aload_n hx hb dX10_dust_50 rfl (lv_at hl 0 rfl) ?_
      refine va_get (D := G.1) (ci := 10) (v := .ref A_a0_world) (C := RX10) (T := TX10) (N := 8) hx hb hts uX10_dust_10 hown hK.1 hP 0 rfl rfl 0 (by decide) (hts (.fieldLink RX10 10 "RingShadow" "world" "LRingShadow$World;") (List.mem_of_getElem? (i := 4) rfl)) (fun _ h9 => h9) rfl dX10_dust_51 ?_
      refine lv_iload_n hx hb dX10_dust_54 rfl (lv_at hl 1 rfl) ?_
      refine lv_iload_n hx hb dX10_dust_55 rfl (lv_at hl 2 rfl) ?_
      refine lv_iload_n hx hb dX10_dust_56 rfl (lv_at hl 3 rfl) ?_
      obtain ⟨⟨x9, x10⟩, h13, h⟩ := rs_b2s h
      have h := h _ _ rfl
      refine rs_callVv (As := [.ref A_a0_world, .int p1, .int p2, .int p3]) (rest := []) ⟨hx, hb, hml, hown, hts⟩ (c_X2_pass l G A_a0_cloud A_a0_world A_a0_cloud_first A_a0_cloud_second A_a0_world_shadow A_a0_world_stock A_a0_world_sights A_a0_world_stock_cells v_a0_cloud_fed v_a0_cloud_whole v_a0_cloud_first v_a0_world_year v_a0_world_stock_cells v_a0_cloud_second v_a0_world_shadow_lands v_a0_world_shadow_wide v_a0_world_shadow_pace v_a0_world_shadow_age v_a0_world_shadow_slits v_a0_world_shadow_slitA v_a0_world_shadow_slitB p1 p2 p3 N x9 x10 h13) (cwV 4 hts gX10_dust_X2_pass rfl rfl rfl (by decide +kernel) ⟨Nat.le_of_ble_eq_true rfl, Nat.le_of_ble_eq_true rfl⟩) dX10_dust_57 hK hP hD hS hA [3, 4, 1, 5, 6, 7, 2] rfl (by decide) rfl rfl (q0 := 0) (ci := 2) rfl rfl rfl hl.1 (lv_room (Nat.le_of_ble_eq_true rfl)) ⟨Nat.zero_le _, Nat.zero_le _⟩ (fun (u : ((Nat → Int64) × (Nat → Int64))) => [(A_a0, .inr (10, [.ref A_a0_world, .ref A_a0_images, .ref A_a0_pad, .ref A_a0_story, .ref A_a0_walk, .ref A_a0_census, .ref A_a0_carrier, .ref A_a0_cloud])), (A_a0_world, .inr (9, [.ref A_a0_world_shadow, .ref A_a0_world_stock, .ref A_a0_world_sights, .int v_a0_world_year])), (A_a0_world_shadow, .inr (4, [.int v_a0_world_shadow_lands, .int v_a0_world_shadow_wide, .int v_a0_world_shadow_pace, .int v_a0_world_shadow_age, .int v_a0_world_shadow_slits, .int v_a0_world_shadow_slitA, .int v_a0_world_shadow_slitB])), (A_a0_cloud, .inr (2, [.ref A_a0_cloud_first, .ref A_a0_cloud_second, .long x9, .long x10])), (A_a0_cloud_first, .inl (G.2.2.1, 100, .inr (.inl u.1))), (A_a0_world_stock, .inr (6, [.ref A_a0_world_stock_cells])), (A_a0_world_stock_cells, .inl (G.2.1, 36, .inl v_a0_world_stock_cells)), (A_a0_cloud_second, .inl (G.2.2.1, 100, .inr (.inl u.2)))]) (fun _ => rfl) (fun _ => rfl) (fun u13 H locs hP hD hS => ?_)
      obtain ⟨f11, f12⟩ := u13
      have hP : va_P G.1 vwCl [(A_a0, .inr (10, [.ref A_a0_world, .ref A_a0_images, .ref A_a0_pad, .ref A_a0_story, .ref A_a0_walk, .ref A_a0_census, .ref A_a0_carrier, .ref A_a0_cloud])), (A_a0_world, .inr (9, [.ref A_a0_world_shadow, .ref A_a0_world_stock, .ref A_a0_world_sights, .int v_a0_world_year])), (A_a0_world_shadow, .inr (4, [.int v_a0_world_shadow_lands, .int v_a0_world_shadow_wide, .int v_a0_world_shadow_pace, .int v_a0_world_shadow_age, .int v_a0_world_shadow_slits, .int v_a0_world_shadow_slitA, .int v_a0_world_shadow_slitB])), (A_a0_cloud, .inr (2, [.ref A_a0_cloud_first, .ref A_a0_cloud_second, .long x9, .long x10])), (A_a0_cloud_first, .inl (G.2.2.1, 100, .inr (.inl f11))), (A_a0_world_stock, .inr (6, [.ref A_a0_world_stock_cells])), (A_a0_world_stock_cells, .inl (G.2.1, 36, .inl v_a0_world_stock_cells)), (A_a0_cloud_second, .inl (G.2.2.1, 100, .inr (.inl f12)))] H := hP
      have hD : va_D A [(A_a0, .inr (10, [.ref A_a0_world, .ref A_a0_images, .ref A_a0_pad, .ref A_a0_story, .ref A_a0_walk, .ref A_a0_census, .ref A_a0_carrier, .ref A_a0_cloud])), (A_a0_world, .inr (9, [.ref A_a0_world_shadow, .ref A_a0_world_stock, .ref A_a0_world_sights, .int v_a0_world_year])), (A_a0_world_shadow, .inr (4, [.int v_a0_world_shadow_lands, .int v_a0_world_shadow_wide, .int v_a0_world_shadow_pace, .int v_a0_world_shadow_age, .int v_a0_world_shadow_slits, .int v_a0_world_shadow_slitA, .int v_a0_world_shadow_slitB])), (A_a0_cloud, .inr (2, [.ref A_a0_cloud_first, .ref A_a0_cloud_second, .long x9, .long x10])), (A_a0_cloud_first, .inl (G.2.2.1, 100, .inr (.inl f11))), (A_a0_world_stock, .inr (6, [.ref A_a0_world_stock_cells])), (A_a0_world_stock_cells, .inl (G.2.1, 36, .inl v_a0_world_stock_cells)), (A_a0_cloud_second, .inl (G.2.2.1, 100, .inr (.inl f12)))] := hD
      refine lv_aload_n hx hb dX10_dust_60 rfl (lv_at hl 0 rfl) ?_
      refine va_get (D := G.1) (ci := 10) (v := .ref A_a0_cloud) (C := RX10) (T := TX10) (N := 8) hx hb hts uX10_dust_10 hown hK.1 hP 0 rfl rfl 7 (by decide) (hts (.fieldLink RX10 58 "RingShadow" "cloud" "LRingShadow$Cloud;") (List.mem_of_getElem? (i := 3) rfl)) (fun _ h9 => h9) rfl dX10_dust_61 ?_
      refine va_get (D := G.1) (ci := 2) (v := .long x9) (C := RX2) (T := TX2) (N := 4) hx hb hts uX10_dust_2 hown hK.1 hP 3 rfl rfl 2 (by decide) (hts (.fieldLink RX10 269 "RingShadow$Cloud" "fed" "J") (List.mem_of_getElem? (i := 5) rfl)) (fun _ h9 => h9) rfl dX10_dust_64 ?_
      refine lv_aload_n hx hb dX10_dust_67 rfl (lv_at hl 0 rfl) ?_
      refine va_get (D := G.1) (ci := 10) (v := .ref A_a0_cloud) (C := RX10) (T := TX10) (N := 8) hx hb hts uX10_dust_10 hown hK.1 hP 0 rfl rfl 7 (by decide) (hts (.fieldLink RX10 58 "RingShadow" "cloud" "LRingShadow$Cloud;") (List.mem_of_getElem? (i := 3) rfl)) (fun _ h9 => h9) rfl dX10_dust_68 ?_
      refine va_get (D := G.1) (ci := 2) (v := .long x10) (C := RX2) (T := TX2) (N := 4) hx hb hts uX10_dust_2 hown hK.1 hP 3 rfl rfl 3 (by decide) (hts (.fieldLink RX10 273 "RingShadow$Cloud" "whole" "J") (List.mem_of_getElem? (i := 6) rfl)) (fun _ h9 => h9) rfl dX10_dust_71 ?_
      obtain ⟨x14, h15, h⟩ := rs_b1s h
      have h := h _ rfl
      refine rs_callSl (As := [.long x9, .long x10]) (rest := []) ⟨hx, hb, hml, hown, hts⟩ (c_X10_greatestDivisor l G x9 x10 N x14 h15) (va_cwS 2 hts gX10_dust_X10_greatestDivisor rfl rfl rfl (by decide +kernel) ⟨Nat.le_of_ble_eq_true rfl, Nat.le_of_ble_eq_true rfl⟩) dX10_dust_74 hK hP hD hS hA [] rfl (by decide) rfl rfl hl.1 (lv_room (Nat.le_of_ble_eq_true rfl)) ⟨Nat.zero_le _, Nat.zero_le _⟩ (fun (_ : Unit) => [(A_a0, .inr (10, [.ref A_a0_world, .ref A_a0_images, .ref A_a0_pad, .ref A_a0_story, .ref A_a0_walk, .ref A_a0_census, .ref A_a0_carrier, .ref A_a0_cloud])), (A_a0_world, .inr (9, [.ref A_a0_world_shadow, .ref A_a0_world_stock, .ref A_a0_world_sights, .int v_a0_world_year])), (A_a0_world_shadow, .inr (4, [.int v_a0_world_shadow_lands, .int v_a0_world_shadow_wide, .int v_a0_world_shadow_pace, .int v_a0_world_shadow_age, .int v_a0_world_shadow_slits, .int v_a0_world_shadow_slitA, .int v_a0_world_shadow_slitB])), (A_a0_cloud, .inr (2, [.ref A_a0_cloud_first, .ref A_a0_cloud_second, .long x9, .long x10])), (A_a0_cloud_first, .inl (G.2.2.1, 100, .inr (.inl f11))), (A_a0_world_stock, .inr (6, [.ref A_a0_world_stock_cells])), (A_a0_world_stock_cells, .inl (G.2.1, 36, .inl v_a0_world_stock_cells)), (A_a0_cloud_second, .inl (G.2.2.1, 100, .inr (.inl f12)))]) (fun _ => rfl) (fun _ => rfl) (fun u15 H locs hP hD hS => ?_)
      refine lv_lstore (lv' := [(5, .long x14), (0, .ref A_a0), (1, .int p1), (2, .int p2), (3, .int p3), (4, .int p4)]) hx hb dX10_dust_77 hl (by decide) rfl (fun ls hl => ?_)
      refine lv_iload hx hb dX10_dust_79 (lv_at hl 5 rfl) ?_
      refine lv_if_ne (tgt := 99) hx hb dX10_dust_81 (by decide) (fun hc => ?_) (fun hc => ?_)
      · have h := rs_neg hc h
        refine lv_aload_n hx hb dX10_dust_99 rfl (lv_at hl 1 rfl) ?_
        refine va_get (D := G.1) (ci := 10) (v := .ref A_a0_cloud) (C := RX10) (T := TX10) (N := 8) hx hb hts uX10_dust_10 hown hK.1 hP 0 rfl rfl 7 (by decide) (hts (.fieldLink RX10 58 "RingShadow" "cloud" "LRingShadow$Cloud;") (List.mem_of_getElem? (i := 3) rfl)) (fun _ h9 => h9) rfl dX10_dust_100 ?_
        refine va_get (D := G.1) (ci := 2) (v := .long x10) (C := RX2) (T := TX2) (N := 4) hx hb hts uX10_dust_2 hown hK.1 hP 3 rfl rfl 3 (by decide) (hts (.fieldLink RX10 273 "RingShadow$Cloud" "whole" "J") (List.mem_of_getElem? (i := 6) rfl)) (fun _ h9 => h9) rfl dX10_dust_103 ?_
        refine lv_lload hx hb dX10_dust_106 (lv_at hl 0 rfl) ?_
        obtain ⟨x16, h17, h⟩ := rs_b1s h
        have h := h _ rfl
        refine rs_callSl (As := [.long x10, .long x14]) (rest := []) ⟨hx, hb, hml, hown, hts⟩ (c_X10_cut_ l G x10 x14 x16 h17) (va_cwS 2 hts gX10_dust_X10_cut_ rfl rfl rfl (by decide +kernel) ⟨Nat.le_of_ble_eq_true rfl, Nat.le_of_ble_eq_true rfl⟩) dX10_dust_108 hK hP hD hS hA [] rfl (by decide) rfl rfl hl.1 (lv_room (Nat.le_of_ble_eq_true rfl)) ⟨Nat.zero_le _, Nat.zero_le _⟩ (fun (_ : Unit) => [(A_a0, .inr (10, [.ref A_a0_world, .ref A_a0_images, .ref A_a0_pad, .ref A_a0_story, .ref A_a0_walk, .ref A_a0_census, .ref A_a0_carrier, .ref A_a0_cloud])), (A_a0_world, .inr (9, [.ref A_a0_world_shadow, .ref A_a0_world_stock, .ref A_a0_world_sights, .int v_a0_world_year])), (A_a0_world_shadow, .inr (4, [.int v_a0_world_shadow_lands, .int v_a0_world_shadow_wide, .int v_a0_world_shadow_pace, .int v_a0_world_shadow_age, .int v_a0_world_shadow_slits, .int v_a0_world_shadow_slitA, .int v_a0_world_shadow_slitB])), (A_a0_cloud, .inr (2, [.ref A_a0_cloud_first, .ref A_a0_cloud_second, .long x9, .long x10])), (A_a0_cloud_first, .inl (G.2.2.1, 100, .inr (.inl f11))), (A_a0_world_stock, .inr (6, [.ref A_a0_world_stock_cells])), (A_a0_world_stock_cells, .inl (G.2.1, 36, .inl v_a0_world_stock_cells)), (A_a0_cloud_second, .inl (G.2.2.1, 100, .inr (.inl f12)))]) (fun _ => rfl) (fun _ => rfl) (fun u17 H locs hP hD hS => ?_)
        exact ret _ _ _ (f11, f12) _ _ _ _ h hP hS dX10_dust_111
      have h := rs_pos hc h
      refine lv_aload_n hx hb dX10_dust_84 rfl (lv_at hl 1 rfl) ?_
      refine va_get (D := G.1) (ci := 10) (v := .ref A_a0_cloud) (C := RX10) (T := TX10) (N := 8) hx hb hts uX10_dust_10 hown hK.1 hP 0 rfl rfl 7 (by decide) (hts (.fieldLink RX10 58 "RingShadow" "cloud" "LRingShadow$Cloud;") (List.mem_of_getElem? (i := 3) rfl)) (fun _ h9 => h9) rfl dX10_dust_85 ?_
      refine va_get (D := G.1) (ci := 2) (v := .long x9) (C := RX2) (T := TX2) (N := 4) hx hb hts uX10_dust_2 hown hK.1 hP 3 rfl rfl 2 (by decide) (hts (.fieldLink RX10 269 "RingShadow$Cloud" "fed" "J") (List.mem_of_getElem? (i := 5) rfl)) (fun _ h9 => h9) rfl dX10_dust_88 ?_
      refine lv_lload hx hb dX10_dust_91 (lv_at hl 0 rfl) ?_
      obtain ⟨x18, h19, h⟩ := rs_b1s h
      have h := h _ rfl
      refine rs_callSl (As := [.long x9, .long x14]) (rest := []) ⟨hx, hb, hml, hown, hts⟩ (c_X10_cut_ l G x9 x14 x18 h19) (va_cwS 2 hts gX10_dust_X10_cut_ rfl rfl rfl (by decide +kernel) ⟨Nat.le_of_ble_eq_true rfl, Nat.le_of_ble_eq_true rfl⟩) dX10_dust_93 hK hP hD hS hA [] rfl (by decide) rfl rfl hl.1 (lv_room (Nat.le_of_ble_eq_true rfl)) ⟨Nat.zero_le _, Nat.zero_le _⟩ (fun (_ : Unit) => [(A_a0, .inr (10, [.ref A_a0_world, .ref A_a0_images, .ref A_a0_pad, .ref A_a0_story, .ref A_a0_walk, .ref A_a0_census, .ref A_a0_carrier, .ref A_a0_cloud])), (A_a0_world, .inr (9, [.ref A_a0_world_shadow, .ref A_a0_world_stock, .ref A_a0_world_sights, .int v_a0_world_year])), (A_a0_world_shadow, .inr (4, [.int v_a0_world_shadow_lands, .int v_a0_world_shadow_wide, .int v_a0_world_shadow_pace, .int v_a0_world_shadow_age, .int v_a0_world_shadow_slits, .int v_a0_world_shadow_slitA, .int v_a0_world_shadow_slitB])), (A_a0_cloud, .inr (2, [.ref A_a0_cloud_first, .ref A_a0_cloud_second, .long x9, .long x10])), (A_a0_cloud_first, .inl (G.2.2.1, 100, .inr (.inl f11))), (A_a0_world_stock, .inr (6, [.ref A_a0_world_stock_cells])), (A_a0_world_stock_cells, .inl (G.2.1, 36, .inl v_a0_world_stock_cells)), (A_a0_cloud_second, .inl (G.2.2.1, 100, .inr (.inl f12)))]) (fun _ => rfl) (fun _ => rfl) (fun u19 H locs hP hD hS => ?_)
      refine lv_goto (tgt := 111) hx hb dX10_dust_96 (by decide) ?_
      exact ret _ _ _ (f11, f12) _ _ _ _ h hP hS dX10_dust_111
    have h := rs_pos hc h
    refine lv_ldc2 hx hb hown (hts (.constantLong RX10 236 (-1000000000000000002)) (List.mem_of_getElem? (i := 2) rfl)) dX10_dust_42 ?_
    exact ret _ _ _ (v_a0_cloud_first, v_a0_cloud_second) _ _ _ _ h hP hS dX10_dust_45
  have h := rs_pos hc h
  refine lv_ldc2 hx hb hown (hts (.constantLong RX10 234 (-1000000000000000001)) (List.mem_of_getElem? (i := 1) rfl)) dX10_dust_8 ?_
  exact ret _ _ _ (v_a0_cloud_first, v_a0_cloud_second) _ _ _ _ h hP hS dX10_dust_11
theorem uX10_rent_10 : ∀ w ∈ wsX100, w ∈ wsX10_rent := fun _ h => List.mem_cons_of_mem _ (List.mem_append_left _ (List.mem_append_left _ (List.mem_append_right _ h)))
theorem uX10_rent_9 : ∀ w ∈ wsX90, w ∈ wsX10_rent := fun _ h => List.mem_cons_of_mem _ (List.mem_append_left _ (List.mem_append_right _ h))
abbrev rmX10_rent : Room := { frames := 6, cells := 0, slots := 0, locals := 144 }
set_option maxRecDepth 100000 in
set_option maxHeartbeats 4000000 in
theorem c_X10_rent (l : Launch) (G : rs_G) (A_a0 : Nat) (A_a0_world : Nat) (A_a0_images : Nat) (A_a0_pad : Nat) (A_a0_story : Nat) (A_a0_walk : Nat) (A_a0_census : Nat) (A_a0_carrier : Nat) (A_a0_cloud : Nat) (A_a0_world_shadow : Nat) (A_a0_world_stock : Nat) (A_a0_world_sights : Nat) (v_a0_world_year : Int32) (v_a0_world_shadow_lands : Int32) (v_a0_world_shadow_wide : Int32) (v_a0_world_shadow_pace : Int32) (v_a0_world_shadow_age : Int32) (v_a0_world_shadow_slits : Int32) (v_a0_world_shadow_slitA : Int32) (v_a0_world_shadow_slitB : Int32) (p1 : Int32) (p2 : Int32) (p3 : Int32) (p4 : Int32) (N : Nat) (r0 : Int32) (h : f_X10_rent N p1 p2 p3 p4 v_a0_world_shadow_lands v_a0_world_shadow_wide v_a0_world_shadow_pace v_a0_world_shadow_age v_a0_world_shadow_slits v_a0_world_shadow_slitA v_a0_world_shadow_slitB = some r0) : rs_Ci l yX10_rent wsX10_rent rmX10_rent G [.ref A_a0, .int p1, .int p2, .int p3, .int p4] [(A_a0, .inr (10, [.ref A_a0_world, .ref A_a0_images, .ref A_a0_pad, .ref A_a0_story, .ref A_a0_walk, .ref A_a0_census, .ref A_a0_carrier, .ref A_a0_cloud])), (A_a0_world, .inr (9, [.ref A_a0_world_shadow, .ref A_a0_world_stock, .ref A_a0_world_sights, .int v_a0_world_year])), (A_a0_world_shadow, .inr (4, [.int v_a0_world_shadow_lands, .int v_a0_world_shadow_wide, .int v_a0_world_shadow_pace, .int v_a0_world_shadow_age, .int v_a0_world_shadow_slits, .int v_a0_world_shadow_slitA, .int v_a0_world_shadow_slitB]))] (fun (_ : Unit) => [(A_a0, .inr (10, [.ref A_a0_world, .ref A_a0_images, .ref A_a0_pad, .ref A_a0_story, .ref A_a0_walk, .ref A_a0_census, .ref A_a0_carrier, .ref A_a0_cloud])), (A_a0_world, .inr (9, [.ref A_a0_world_shadow, .ref A_a0_world_stock, .ref A_a0_world_sights, .int v_a0_world_year])), (A_a0_world_shadow, .inr (4, [.int v_a0_world_shadow_lands, .int v_a0_world_shadow_wide, .int v_a0_world_shadow_pace, .int v_a0_world_shadow_age, .int v_a0_world_shadow_slits, .int v_a0_world_shadow_slitA, .int v_a0_world_shadow_slitB]))]) r0 := by
  refine rs_enter_i (cc := cX10_rent) (maxL := 5) (ty := .int) (by decide) rfl (Nat.le_of_ble_eq_true rfl) (fun p e s m args below meth c A Q ls E ret hP hD hS hA hl => ?_)
  obtain ⟨hx, hb, hml, hown, hts, hK⟩ := E
  have hown : s.vm.findClass RX10 = some m.cls := hown
  have hl : lv_has ls 5 [(0, .ref A_a0), (1, .int p1), (2, .int p2), (3, .int p3), (4, .int p4)] := hl
  have ret : ∀ (v0 : Int32) (u : Unit) (H : Heap) (locs : List Loc) (pc : Nat) (ls : Array Slot), some v0 = some r0 → va_P G.1 vwCl [(A_a0, .inr (10, [.ref A_a0_world, .ref A_a0_images, .ref A_a0_pad, .ref A_a0_story, .ref A_a0_walk, .ref A_a0_census, .ref A_a0_carrier, .ref A_a0_cloud])), (A_a0_world, .inr (9, [.ref A_a0_world_shadow, .ref A_a0_world_stock, .ref A_a0_world_sights, .int v_a0_world_year])), (A_a0_world_shadow, .inr (4, [.int v_a0_world_shadow_lands, .int v_a0_world_shadow_wide, .int v_a0_world_shadow_pace, .int v_a0_world_shadow_age, .int v_a0_world_shadow_slits, .int v_a0_world_shadow_slitA, .int v_a0_world_shadow_slitB]))] H → va_S A s.heap H locs → decode cX10_rent pc = .ok (.ireturn, 1) → narrow .int (.int v0) = .int v0 → W p l e rmX10_rent s m args below meth c H locs 0 0 Q (F0 m pc ls [.int v0]) := by
    intro v0 u H locs pc ls hz
    cases hz
    exact ret u H locs pc ls
  unfold f_X10_rent at h
  refine lv_aload_n hx hb dX10_rent_0 rfl (lv_at hl 0 rfl) ?_
  refine lv_iload_n hx hb dX10_rent_1 rfl (lv_at hl 1 rfl) ?_
  obtain ⟨x1, h2, h⟩ := rs_b1s h
  have h := h _ rfl
  refine rs_callVi (As := [.int p1]) (rest := []) ⟨hx, hb, hml, hown, hts⟩ (c_X10_hasLand l G A_a0 A_a0_world A_a0_images A_a0_pad A_a0_story A_a0_walk A_a0_census A_a0_carrier A_a0_cloud A_a0_world_shadow A_a0_world_stock A_a0_world_sights v_a0_world_year v_a0_world_shadow_lands v_a0_world_shadow_wide v_a0_world_shadow_pace v_a0_world_shadow_age v_a0_world_shadow_slits v_a0_world_shadow_slitA v_a0_world_shadow_slitB p1 x1 h2) (cwV 1 hts gX10_rent_X10_hasLand rfl rfl rfl (by decide +kernel) ⟨Nat.le_of_ble_eq_true rfl, Nat.le_of_ble_eq_true rfl⟩) dX10_rent_2 hK hP hD hS hA [0, 1, 2] rfl (by decide) rfl rfl (q0 := 0) (ci := 10) rfl rfl rfl hl.1 (lv_room (Nat.le_of_ble_eq_true rfl)) ⟨Nat.zero_le _, Nat.zero_le _⟩ (fun (_ : Unit) => [(A_a0, .inr (10, [.ref A_a0_world, .ref A_a0_images, .ref A_a0_pad, .ref A_a0_story, .ref A_a0_walk, .ref A_a0_census, .ref A_a0_carrier, .ref A_a0_cloud])), (A_a0_world, .inr (9, [.ref A_a0_world_shadow, .ref A_a0_world_stock, .ref A_a0_world_sights, .int v_a0_world_year])), (A_a0_world_shadow, .inr (4, [.int v_a0_world_shadow_lands, .int v_a0_world_shadow_wide, .int v_a0_world_shadow_pace, .int v_a0_world_shadow_age, .int v_a0_world_shadow_slits, .int v_a0_world_shadow_slitA, .int v_a0_world_shadow_slitB]))]) (fun _ => rfl) (fun _ => rfl) (fun u2 H locs hP hD hS => ?_)
  refine lv_if_ne (tgt := 10) hx hb dX10_rent_5 (by decide) (fun hc => ?_) (fun hc => ?_)
  · have h := rs_neg hc h
    refine lv_iload_n hx hb dX10_rent_10 rfl (lv_at hl 2 rfl) ?_
    obtain ⟨x3, h4, h⟩ := rs_b1s h
    have h := h _ rfl
    refine rs_callSi (As := [.int p2]) (rest := []) ⟨hx, hb, hml, hown, hts⟩ (c_X10_isYear l G p2 x3 h4) (va_cwS 1 hts gX10_rent_X10_isYear rfl rfl rfl (by decide +kernel) ⟨Nat.le_of_ble_eq_true rfl, Nat.le_of_ble_eq_true rfl⟩) dX10_rent_11 hK hP hD hS hA [] rfl (by decide) rfl rfl hl.1 (lv_room (Nat.le_of_ble_eq_true rfl)) ⟨Nat.zero_le _, Nat.zero_le _⟩ (fun (_ : Unit) => [(A_a0, .inr (10, [.ref A_a0_world, .ref A_a0_images, .ref A_a0_pad, .ref A_a0_story, .ref A_a0_walk, .ref A_a0_census, .ref A_a0_carrier, .ref A_a0_cloud])), (A_a0_world, .inr (9, [.ref A_a0_world_shadow, .ref A_a0_world_stock, .ref A_a0_world_sights, .int v_a0_world_year])), (A_a0_world_shadow, .inr (4, [.int v_a0_world_shadow_lands, .int v_a0_world_shadow_wide, .int v_a0_world_shadow_pace, .int v_a0_world_shadow_age, .int v_a0_world_shadow_slits, .int v_a0_world_shadow_slitA, .int v_a0_world_shadow_slitB]))]) (fun _ => rfl) (fun _ => rfl) (fun u4 H locs hP hD hS => ?_)
    refine lv_if_eq (tgt := 39) hx hb dX10_rent_14 (by decide) (fun hc => ?_) (fun hc => ?_)
    · have h := rs_pos hc h
      refine lv_bipush (v := (-2)) hx hb dX10_rent_39 (by decide) ?_
      exact ret _ () _ _ _ _ h hP hS dX10_rent_41 rfl
    have h := rs_neg hc h
    refine lv_iload_n hx hb dX10_rent_17 rfl (lv_at hl 3 rfl) ?_
    refine lv_iconst (v := 0) hx hb dX10_rent_18 (by decide) ?_
    refine lv_sipush (v := 9999) hx hb dX10_rent_19 (by decide) ?_
    obtain ⟨x5, h6, h⟩ := rs_b1s h
    have h := h _ rfl
    refine rs_callSi (As := [.int p3, .int 0, .int 9999]) (rest := []) ⟨hx, hb, hml, hown, hts⟩ (c_X10_within l G p3 0 9999 x5 h6) (va_cwS 3 hts gX10_rent_X10_within rfl rfl rfl (by decide +kernel) ⟨Nat.le_of_ble_eq_true rfl, Nat.le_of_ble_eq_true rfl⟩) dX10_rent_22 hK hP hD hS hA [] rfl (by decide) rfl rfl hl.1 (lv_room (Nat.le_of_ble_eq_true rfl)) ⟨Nat.zero_le _, Nat.zero_le _⟩ (fun (_ : Unit) => [(A_a0, .inr (10, [.ref A_a0_world, .ref A_a0_images, .ref A_a0_pad, .ref A_a0_story, .ref A_a0_walk, .ref A_a0_census, .ref A_a0_carrier, .ref A_a0_cloud])), (A_a0_world, .inr (9, [.ref A_a0_world_shadow, .ref A_a0_world_stock, .ref A_a0_world_sights, .int v_a0_world_year])), (A_a0_world_shadow, .inr (4, [.int v_a0_world_shadow_lands, .int v_a0_world_shadow_wide, .int v_a0_world_shadow_pace, .int v_a0_world_shadow_age, .int v_a0_world_shadow_slits, .int v_a0_world_shadow_slitA, .int v_a0_world_shadow_slitB]))]) (fun _ => rfl) (fun _ => rfl) (fun u6 H locs hP hD hS => ?_)
    refine lv_if_eq (tgt := 39) hx hb dX10_rent_25 (by decide) (fun hc => ?_) (fun hc => ?_)
    · have h := rs_pos hc h
      refine lv_bipush (v := (-2)) hx hb dX10_rent_39 (by decide) ?_
      exact ret _ () _ _ _ _ h hP hS dX10_rent_41 rfl
    have h := rs_neg hc h
    refine lv_iload hx hb dX10_rent_28 (lv_at hl 4 rfl) ?_
    refine lv_iconst (v := 0) hx hb dX10_rent_30 (by decide) ?_
    refine lv_bipush (v := 99) hx hb dX10_rent_31 (by decide) ?_
    obtain ⟨x7, h8, h⟩ := rs_b1s h
    have h := h _ rfl
    refine rs_callSi (As := [.int p4, .int 0, .int 99]) (rest := []) ⟨hx, hb, hml, hown, hts⟩ (c_X10_within l G p4 0 99 x7 h8) (va_cwS 3 hts gX10_rent_X10_within rfl rfl rfl (by decide +kernel) ⟨Nat.le_of_ble_eq_true rfl, Nat.le_of_ble_eq_true rfl⟩) dX10_rent_33 hK hP hD hS hA [] rfl (by decide) rfl rfl hl.1 (lv_room (Nat.le_of_ble_eq_true rfl)) ⟨Nat.zero_le _, Nat.zero_le _⟩ (fun (_ : Unit) => [(A_a0, .inr (10, [.ref A_a0_world, .ref A_a0_images, .ref A_a0_pad, .ref A_a0_story, .ref A_a0_walk, .ref A_a0_census, .ref A_a0_carrier, .ref A_a0_cloud])), (A_a0_world, .inr (9, [.ref A_a0_world_shadow, .ref A_a0_world_stock, .ref A_a0_world_sights, .int v_a0_world_year])), (A_a0_world_shadow, .inr (4, [.int v_a0_world_shadow_lands, .int v_a0_world_shadow_wide, .int v_a0_world_shadow_pace, .int v_a0_world_shadow_age, .int v_a0_world_shadow_slits, .int v_a0_world_shadow_slitA, .int v_a0_world_shadow_slitB]))]) (fun _ => rfl) (fun _ => rfl) (fun u8 H locs hP hD hS => ?_)
    refine lv_if_ne (tgt := 42) hx hb dX10_rent_36 (by decide) (fun hc => ?_) (fun hc => ?_)
    · have h := rs_neg hc h
      refine lv_iload hx hb dX10_rent_42 (lv_at hl 4 rfl) ?_
      refine lv_aload_n hx hb dX10_rent_44 rfl (lv_at hl 0 rfl) ?_
      refine va_get (D := G.1) (ci := 10) (v := .ref A_a0_world) (C := RX10) (T := TX10) (N := 8) hx hb hts uX10_rent_10 hown hK.1 hP 0 rfl rfl 0 (by decide) (hts (.fieldLink RX10 10 "RingShadow" "world" "LRingShadow$World;") (List.mem_of_getElem? (i := 1) rfl)) (fun _ h9 => h9) rfl dX10_rent_45 ?_
      refine va_get (D := G.1) (ci := 9) (v := .ref A_a0_world_shadow) (C := RX9) (T := TX9) (N := 4) hx hb hts uX10_rent_9 hown hK.1 hP 1 rfl rfl 0 (by decide) (hts (.fieldLink RX10 66 "RingShadow$World" "shadow" "LRingShadow$Shadow;") (List.mem_of_getElem? (i := 2) rfl)) (fun _ h9 => h9) rfl dX10_rent_48 ?_
      refine lv_iload_n hx hb dX10_rent_51 rfl (lv_at hl 1 rfl) ?_
      refine lv_iload_n hx hb dX10_rent_52 rfl (lv_at hl 2 rfl) ?_
      refine lv_iload_n hx hb dX10_rent_53 rfl (lv_at hl 3 rfl) ?_
      obtain ⟨x9, h10, h⟩ := rs_b1s h
      have h := h _ rfl
      refine rs_callVi (As := [.int p1, .int p2, .int p3]) (rest := [.int p4]) ⟨hx, hb, hml, hown, hts⟩ (c_X4_rentYears l G A_a0_world_shadow v_a0_world_shadow_lands v_a0_world_shadow_wide v_a0_world_shadow_pace v_a0_world_shadow_age v_a0_world_shadow_slits v_a0_world_shadow_slitA v_a0_world_shadow_slitB p1 p2 p3 N x9 h10) (cwV 3 hts gX10_rent_X4_rentYears rfl rfl rfl (by decide +kernel) ⟨Nat.le_of_ble_eq_true rfl, Nat.le_of_ble_eq_true rfl⟩) dX10_rent_54 hK hP hD hS hA [2] rfl (by decide) rfl rfl (q0 := 0) (ci := 4) rfl rfl rfl hl.1 (lv_room (Nat.le_of_ble_eq_true rfl)) ⟨Nat.zero_le _, Nat.zero_le _⟩ (fun (_ : Unit) => [(A_a0, .inr (10, [.ref A_a0_world, .ref A_a0_images, .ref A_a0_pad, .ref A_a0_story, .ref A_a0_walk, .ref A_a0_census, .ref A_a0_carrier, .ref A_a0_cloud])), (A_a0_world, .inr (9, [.ref A_a0_world_shadow, .ref A_a0_world_stock, .ref A_a0_world_sights, .int v_a0_world_year])), (A_a0_world_shadow, .inr (4, [.int v_a0_world_shadow_lands, .int v_a0_world_shadow_wide, .int v_a0_world_shadow_pace, .int v_a0_world_shadow_age, .int v_a0_world_shadow_slits, .int v_a0_world_shadow_slitA, .int v_a0_world_shadow_slitB]))]) (fun _ => rfl) (fun _ => rfl) (fun u10 H locs hP hD hS => ?_)
      refine lv_imul hx hb dX10_rent_57 ?_
      exact ret _ () _ _ _ _ h hP hS dX10_rent_58 rfl
    have h := rs_pos hc h
    refine lv_bipush (v := (-2)) hx hb dX10_rent_39 (by decide) ?_
    exact ret _ () _ _ _ _ h hP hS dX10_rent_41 rfl
  have h := rs_pos hc h
  refine lv_iconst (v := (-1)) hx hb dX10_rent_8 (by decide) ?_
  exact ret _ () _ _ _ _ h hP hS dX10_rent_9 rfl
theorem uX10_age_10 : ∀ w ∈ wsX100, w ∈ wsX10_age := fun _ h => List.mem_cons_of_mem _ (List.mem_append_left _ (List.mem_append_left _ (List.mem_append_left _ (List.mem_append_left _ (List.mem_append_right _ h)))))
theorem uX10_age_4 : ∀ w ∈ wsX40, w ∈ wsX10_age := fun _ h => List.mem_cons_of_mem _ (List.mem_append_left _ (List.mem_append_left _ (List.mem_append_right _ h)))
theorem uX10_age_7 : ∀ w ∈ wsX70, w ∈ wsX10_age := fun _ h => List.mem_cons_of_mem _ (List.mem_append_left _ (List.mem_append_left _ (List.mem_append_left _ (List.mem_append_right _ h))))
abbrev rmX10_age : Room := { frames := 4, cells := 0, slots := 0, locals := 94 }
set_option maxRecDepth 100000 in
set_option maxHeartbeats 4000000 in
theorem c_X10_age (l : Launch) (G : rs_G) (A_a0 : Nat) (A_a0_world : Nat) (A_a0_images : Nat) (A_a0_pad : Nat) (A_a0_story : Nat) (A_a0_walk : Nat) (A_a0_census : Nat) (A_a0_carrier : Nat) (A_a0_cloud : Nat) (A_a0_story_shadow : Nat) (A_a0_story_stock : Nat) (A_a0_story_hungry : Nat) (A_a0_world_shadow : Nat) (A_a0_world_stock : Nat) (A_a0_world_sights : Nat) (A_a0_story_stock_cells : Nat) (A_a0_world_stock_cells : Nat) (v_a0_story_year : Int32) (v_a0_story_years : Int32) (v_a0_story_hungrySum : Int32) (v_a0_story_acts : Int32) (v_a0_story_badAct : Int32) (v_a0_story_why : Int32) (v_a0_story_loans : Int32) (v_a0_world_year : Int32) (v_a0_story_shadow_lands : Int32) (v_a0_story_shadow_wide : Int32) (v_a0_story_shadow_pace : Int32) (v_a0_story_shadow_age : Int32) (v_a0_story_shadow_slits : Int32) (v_a0_story_shadow_slitA : Int32) (v_a0_story_shadow_slitB : Int32) (v_a0_world_shadow_lands : Int32) (v_a0_world_shadow_wide : Int32) (v_a0_world_shadow_pace : Int32) (v_a0_world_shadow_age : Int32) (v_a0_world_shadow_slits : Int32) (v_a0_world_shadow_slitA : Int32) (v_a0_world_shadow_slitB : Int32) (v_a0_world_stock_cells : (Nat → Int32)) (v_a0_story_stock_cells : (Nat → Int32)) (v_a0_story_hungry : (Nat → Int32)) (p1 : Int32) (p2 : Int32) (p3 : Int32) (N : Nat) (r0 : Int32) (o0 : Int32) (o1 : Int32) (o2 : Int32) (o3 : Int32) (o4 : Int32) (o5 : Int32) (o6 : Int32) (o7 : Int32) (o8 : Int32) (o9 : Int32) (o10 : Int32) (o11 : Int32) (o12 : Int32) (o13 : Int32) (o14 : (Nat → Int32)) (o15 : (Nat → Int32)) (h : f_X10_age N p1 p2 p3 v_a0_story_year v_a0_story_years v_a0_story_hungrySum v_a0_story_acts v_a0_story_badAct v_a0_story_why v_a0_story_loans v_a0_world_year v_a0_story_shadow_lands v_a0_story_shadow_wide v_a0_story_shadow_pace v_a0_story_shadow_age v_a0_story_shadow_slits v_a0_story_shadow_slitA v_a0_story_shadow_slitB v_a0_world_shadow_lands v_a0_world_shadow_wide v_a0_world_shadow_pace v_a0_world_shadow_age v_a0_world_shadow_slits v_a0_world_shadow_slitA v_a0_world_shadow_slitB v_a0_world_stock_cells v_a0_story_stock_cells v_a0_story_hungry = some (r0, o0, o1, o2, o3, o4, o5, o6, o7, o8, o9, o10, o11, o12, o13, o14, o15)) : rs_Ci l yX10_age wsX10_age rmX10_age G [.ref A_a0, .int p1, .int p2, .int p3] [(A_a0, .inr (10, [.ref A_a0_world, .ref A_a0_images, .ref A_a0_pad, .ref A_a0_story, .ref A_a0_walk, .ref A_a0_census, .ref A_a0_carrier, .ref A_a0_cloud])), (A_a0_story, .inr (7, [.ref A_a0_story_shadow, .ref A_a0_story_stock, .ref A_a0_story_hungry, .int v_a0_story_year, .int v_a0_story_years, .int v_a0_story_hungrySum, .int v_a0_story_acts, .int v_a0_story_badAct, .int v_a0_story_why, .int v_a0_story_loans])), (A_a0_world, .inr (9, [.ref A_a0_world_shadow, .ref A_a0_world_stock, .ref A_a0_world_sights, .int v_a0_world_year])), (A_a0_story_shadow, .inr (4, [.int v_a0_story_shadow_lands, .int v_a0_story_shadow_wide, .int v_a0_story_shadow_pace, .int v_a0_story_shadow_age, .int v_a0_story_shadow_slits, .int v_a0_story_shadow_slitA, .int v_a0_story_shadow_slitB])), (A_a0_world_shadow, .inr (4, [.int v_a0_world_shadow_lands, .int v_a0_world_shadow_wide, .int v_a0_world_shadow_pace, .int v_a0_world_shadow_age, .int v_a0_world_shadow_slits, .int v_a0_world_shadow_slitA, .int v_a0_world_shadow_slitB])), (A_a0_story_stock, .inr (6, [.ref A_a0_story_stock_cells])), (A_a0_world_stock, .inr (6, [.ref A_a0_world_stock_cells])), (A_a0_world_stock_cells, .inl (G.2.1, 36, .inl v_a0_world_stock_cells)), (A_a0_story_stock_cells, .inl (G.2.1, 36, .inl v_a0_story_stock_cells)), (A_a0_story_hungry, .inl (G.2.1, 9, .inl v_a0_story_hungry))] (fun (_ : Unit) => [(A_a0, .inr (10, [.ref A_a0_world, .ref A_a0_images, .ref A_a0_pad, .ref A_a0_story, .ref A_a0_walk, .ref A_a0_census, .ref A_a0_carrier, .ref A_a0_cloud])), (A_a0_story, .inr (7, [.ref A_a0_story_shadow, .ref A_a0_story_stock, .ref A_a0_story_hungry, .int o0, .int o1, .int o2, .int o3, .int o4, .int o5, .int o6])), (A_a0_world, .inr (9, [.ref A_a0_world_shadow, .ref A_a0_world_stock, .ref A_a0_world_sights, .int v_a0_world_year])), (A_a0_story_shadow, .inr (4, [.int o7, .int o8, .int o9, .int o10, .int o11, .int o12, .int o13])), (A_a0_world_shadow, .inr (4, [.int v_a0_world_shadow_lands, .int v_a0_world_shadow_wide, .int v_a0_world_shadow_pace, .int v_a0_world_shadow_age, .int v_a0_world_shadow_slits, .int v_a0_world_shadow_slitA, .int v_a0_world_shadow_slitB])), (A_a0_story_stock, .inr (6, [.ref A_a0_story_stock_cells])), (A_a0_world_stock, .inr (6, [.ref A_a0_world_stock_cells])), (A_a0_world_stock_cells, .inl (G.2.1, 36, .inl v_a0_world_stock_cells)), (A_a0_story_stock_cells, .inl (G.2.1, 36, .inl o14)), (A_a0_story_hungry, .inl (G.2.1, 9, .inl o15))]) r0 := by
  refine rs_enter_i (cc := cX10_age) (maxL := 4) (ty := .int) (by decide) rfl (Nat.le_of_ble_eq_true rfl) (fun p e s m args below meth c A Q ls E ret hP hD hS hA hl => ?_)
  obtain ⟨hx, hb, hml, hown, hts, hK⟩ := E
  have hown : s.vm.findClass RX10 = some m.cls := hown
  have hl : lv_has ls 4 [(0, .ref A_a0), (1, .int p1), (2, .int p2), (3, .int p3)] := hl
  have ret : ∀ (v0 : Int32) (w0 : Int32) (w1 : Int32) (w2 : Int32) (w3 : Int32) (w4 : Int32) (w5 : Int32) (w6 : Int32) (w7 : Int32) (w8 : Int32) (w9 : Int32) (w10 : Int32) (w11 : Int32) (w12 : Int32) (w13 : Int32) (w14 : (Nat → Int32)) (w15 : (Nat → Int32)) (u : Unit) (H : Heap) (locs : List Loc) (pc : Nat) (ls : Array Slot), some (v0, w0, w1, w2, w3, w4, w5, w6, w7, w8, w9, w10, w11, w12, w13, w14, w15) = some (r0, o0, o1, o2, o3, o4, o5, o6, o7, o8, o9, o10, o11, o12, o13, o14, o15) → va_P G.1 vwCl [(A_a0, .inr (10, [.ref A_a0_world, .ref A_a0_images, .ref A_a0_pad, .ref A_a0_story, .ref A_a0_walk, .ref A_a0_census, .ref A_a0_carrier, .ref A_a0_cloud])), (A_a0_story, .inr (7, [.ref A_a0_story_shadow, .ref A_a0_story_stock, .ref A_a0_story_hungry, .int w0, .int w1, .int w2, .int w3, .int w4, .int w5, .int w6])), (A_a0_world, .inr (9, [.ref A_a0_world_shadow, .ref A_a0_world_stock, .ref A_a0_world_sights, .int v_a0_world_year])), (A_a0_story_shadow, .inr (4, [.int w7, .int w8, .int w9, .int w10, .int w11, .int w12, .int w13])), (A_a0_world_shadow, .inr (4, [.int v_a0_world_shadow_lands, .int v_a0_world_shadow_wide, .int v_a0_world_shadow_pace, .int v_a0_world_shadow_age, .int v_a0_world_shadow_slits, .int v_a0_world_shadow_slitA, .int v_a0_world_shadow_slitB])), (A_a0_story_stock, .inr (6, [.ref A_a0_story_stock_cells])), (A_a0_world_stock, .inr (6, [.ref A_a0_world_stock_cells])), (A_a0_world_stock_cells, .inl (G.2.1, 36, .inl v_a0_world_stock_cells)), (A_a0_story_stock_cells, .inl (G.2.1, 36, .inl w14)), (A_a0_story_hungry, .inl (G.2.1, 9, .inl w15))] H → va_S A s.heap H locs → decode cX10_age pc = .ok (.ireturn, 1) → narrow .int (.int v0) = .int v0 → W p l e rmX10_age s m args below meth c H locs 0 0 Q (F0 m pc ls [.int v0]) := by
    intro v0 w0 w1 w2 w3 w4 w5 w6 w7 w8 w9 w10 w11 w12 w13 w14 w15 u H locs pc ls hz
    cases hz
    exact ret u H locs pc ls
  unfold f_X10_age at h
  refine lv_iload_n hx hb dX10_age_0 rfl (lv_at hl 1 rfl) ?_
  refine lv_iconst (v := 0) hx hb dX10_age_1 (by decide) ?_
  refine lv_sipush (v := 9999) hx hb dX10_age_2 (by decide) ?_
  obtain ⟨x1, h2, h⟩ := rs_b1s h
  have h := h _ rfl
  refine rs_callSi (As := [.int p1, .int 0, .int 9999]) (rest := []) ⟨hx, hb, hml, hown, hts⟩ (c_X10_within l G p1 0 9999 x1 h2) (va_cwS 3 hts gX10_age_X10_within rfl rfl rfl (by decide +kernel) ⟨Nat.le_of_ble_eq_true rfl, Nat.le_of_ble_eq_true rfl⟩) dX10_age_5 hK hP hD hS hA [] rfl (by decide) rfl rfl hl.1 (lv_room (Nat.le_of_ble_eq_true rfl)) ⟨Nat.zero_le _, Nat.zero_le _⟩ (fun (_ : Unit) => [(A_a0, .inr (10, [.ref A_a0_world, .ref A_a0_images, .ref A_a0_pad, .ref A_a0_story, .ref A_a0_walk, .ref A_a0_census, .ref A_a0_carrier, .ref A_a0_cloud])), (A_a0_story, .inr (7, [.ref A_a0_story_shadow, .ref A_a0_story_stock, .ref A_a0_story_hungry, .int v_a0_story_year, .int v_a0_story_years, .int v_a0_story_hungrySum, .int v_a0_story_acts, .int v_a0_story_badAct, .int v_a0_story_why, .int v_a0_story_loans])), (A_a0_world, .inr (9, [.ref A_a0_world_shadow, .ref A_a0_world_stock, .ref A_a0_world_sights, .int v_a0_world_year])), (A_a0_story_shadow, .inr (4, [.int v_a0_story_shadow_lands, .int v_a0_story_shadow_wide, .int v_a0_story_shadow_pace, .int v_a0_story_shadow_age, .int v_a0_story_shadow_slits, .int v_a0_story_shadow_slitA, .int v_a0_story_shadow_slitB])), (A_a0_world_shadow, .inr (4, [.int v_a0_world_shadow_lands, .int v_a0_world_shadow_wide, .int v_a0_world_shadow_pace, .int v_a0_world_shadow_age, .int v_a0_world_shadow_slits, .int v_a0_world_shadow_slitA, .int v_a0_world_shadow_slitB])), (A_a0_story_stock, .inr (6, [.ref A_a0_story_stock_cells])), (A_a0_world_stock, .inr (6, [.ref A_a0_world_stock_cells])), (A_a0_world_stock_cells, .inl (G.2.1, 36, .inl v_a0_world_stock_cells)), (A_a0_story_stock_cells, .inl (G.2.1, 36, .inl v_a0_story_stock_cells)), (A_a0_story_hungry, .inl (G.2.1, 9, .inl v_a0_story_hungry))]) (fun _ => rfl) (fun _ => rfl) (fun u2 H locs hP hD hS => ?_)
  refine lv_if_eq (tgt := 30) hx hb dX10_age_8 (by decide) (fun hc => ?_) (fun hc => ?_)
  · have h := rs_pos hc h
    refine lv_bipush (v := (-2)) hx hb dX10_age_30 (by decide) ?_
    exact ret _ _ _ _ _ _ _ _ _ _ _ _ _ _ _ _ _ () _ _ _ _ h hP hS dX10_age_32 rfl
  have h := rs_neg hc h
  refine lv_iload_n hx hb dX10_age_11 rfl (lv_at hl 2 rfl) ?_
  refine lv_iconst (v := 1) hx hb dX10_age_12 (by decide) ?_
  refine lv_bipush (v := 99) hx hb dX10_age_13 (by decide) ?_
  obtain ⟨x3, h4, h⟩ := rs_b1s h
  have h := h _ rfl
  refine rs_callSi (As := [.int p2, .int 1, .int 99]) (rest := []) ⟨hx, hb, hml, hown, hts⟩ (c_X10_within l G p2 1 99 x3 h4) (va_cwS 3 hts gX10_age_X10_within rfl rfl rfl (by decide +kernel) ⟨Nat.le_of_ble_eq_true rfl, Nat.le_of_ble_eq_true rfl⟩) dX10_age_15 hK hP hD hS hA [] rfl (by decide) rfl rfl hl.1 (lv_room (Nat.le_of_ble_eq_true rfl)) ⟨Nat.zero_le _, Nat.zero_le _⟩ (fun (_ : Unit) => [(A_a0, .inr (10, [.ref A_a0_world, .ref A_a0_images, .ref A_a0_pad, .ref A_a0_story, .ref A_a0_walk, .ref A_a0_census, .ref A_a0_carrier, .ref A_a0_cloud])), (A_a0_story, .inr (7, [.ref A_a0_story_shadow, .ref A_a0_story_stock, .ref A_a0_story_hungry, .int v_a0_story_year, .int v_a0_story_years, .int v_a0_story_hungrySum, .int v_a0_story_acts, .int v_a0_story_badAct, .int v_a0_story_why, .int v_a0_story_loans])), (A_a0_world, .inr (9, [.ref A_a0_world_shadow, .ref A_a0_world_stock, .ref A_a0_world_sights, .int v_a0_world_year])), (A_a0_story_shadow, .inr (4, [.int v_a0_story_shadow_lands, .int v_a0_story_shadow_wide, .int v_a0_story_shadow_pace, .int v_a0_story_shadow_age, .int v_a0_story_shadow_slits, .int v_a0_story_shadow_slitA, .int v_a0_story_shadow_slitB])), (A_a0_world_shadow, .inr (4, [.int v_a0_world_shadow_lands, .int v_a0_world_shadow_wide, .int v_a0_world_shadow_pace, .int v_a0_world_shadow_age, .int v_a0_world_shadow_slits, .int v_a0_world_shadow_slitA, .int v_a0_world_shadow_slitB])), (A_a0_story_stock, .inr (6, [.ref A_a0_story_stock_cells])), (A_a0_world_stock, .inr (6, [.ref A_a0_world_stock_cells])), (A_a0_world_stock_cells, .inl (G.2.1, 36, .inl v_a0_world_stock_cells)), (A_a0_story_stock_cells, .inl (G.2.1, 36, .inl v_a0_story_stock_cells)), (A_a0_story_hungry, .inl (G.2.1, 9, .inl v_a0_story_hungry))]) (fun _ => rfl) (fun _ => rfl) (fun u4 H locs hP hD hS => ?_)
  refine lv_if_eq (tgt := 30) hx hb dX10_age_18 (by decide) (fun hc => ?_) (fun hc => ?_)
  · have h := rs_pos hc h
    refine lv_bipush (v := (-2)) hx hb dX10_age_30 (by decide) ?_
    exact ret _ _ _ _ _ _ _ _ _ _ _ _ _ _ _ _ _ () _ _ _ _ h hP hS dX10_age_32 rfl
  have h := rs_neg hc h
  refine lv_iload_n hx hb dX10_age_21 rfl (lv_at hl 3 rfl) ?_
  refine lv_iconst (v := 0) hx hb dX10_age_22 (by decide) ?_
  refine lv_iconst (v := 2) hx hb dX10_age_23 (by decide) ?_
  obtain ⟨x5, h6, h⟩ := rs_b1s h
  have h := h _ rfl
  refine rs_callSi (As := [.int p3, .int 0, .int 2]) (rest := []) ⟨hx, hb, hml, hown, hts⟩ (c_X10_within l G p3 0 2 x5 h6) (va_cwS 3 hts gX10_age_X10_within rfl rfl rfl (by decide +kernel) ⟨Nat.le_of_ble_eq_true rfl, Nat.le_of_ble_eq_true rfl⟩) dX10_age_24 hK hP hD hS hA [] rfl (by decide) rfl rfl hl.1 (lv_room (Nat.le_of_ble_eq_true rfl)) ⟨Nat.zero_le _, Nat.zero_le _⟩ (fun (_ : Unit) => [(A_a0, .inr (10, [.ref A_a0_world, .ref A_a0_images, .ref A_a0_pad, .ref A_a0_story, .ref A_a0_walk, .ref A_a0_census, .ref A_a0_carrier, .ref A_a0_cloud])), (A_a0_story, .inr (7, [.ref A_a0_story_shadow, .ref A_a0_story_stock, .ref A_a0_story_hungry, .int v_a0_story_year, .int v_a0_story_years, .int v_a0_story_hungrySum, .int v_a0_story_acts, .int v_a0_story_badAct, .int v_a0_story_why, .int v_a0_story_loans])), (A_a0_world, .inr (9, [.ref A_a0_world_shadow, .ref A_a0_world_stock, .ref A_a0_world_sights, .int v_a0_world_year])), (A_a0_story_shadow, .inr (4, [.int v_a0_story_shadow_lands, .int v_a0_story_shadow_wide, .int v_a0_story_shadow_pace, .int v_a0_story_shadow_age, .int v_a0_story_shadow_slits, .int v_a0_story_shadow_slitA, .int v_a0_story_shadow_slitB])), (A_a0_world_shadow, .inr (4, [.int v_a0_world_shadow_lands, .int v_a0_world_shadow_wide, .int v_a0_world_shadow_pace, .int v_a0_world_shadow_age, .int v_a0_world_shadow_slits, .int v_a0_world_shadow_slitA, .int v_a0_world_shadow_slitB])), (A_a0_story_stock, .inr (6, [.ref A_a0_story_stock_cells])), (A_a0_world_stock, .inr (6, [.ref A_a0_world_stock_cells])), (A_a0_world_stock_cells, .inl (G.2.1, 36, .inl v_a0_world_stock_cells)), (A_a0_story_stock_cells, .inl (G.2.1, 36, .inl v_a0_story_stock_cells)), (A_a0_story_hungry, .inl (G.2.1, 9, .inl v_a0_story_hungry))]) (fun _ => rfl) (fun _ => rfl) (fun u6 H locs hP hD hS => ?_)
  refine lv_if_ne (tgt := 33) hx hb dX10_age_27 (by decide) (fun hc => ?_) (fun hc => ?_)
  · have h := rs_neg hc h
    refine lv_aload_n hx hb dX10_age_33 rfl (lv_at hl 0 rfl) ?_
    refine va_get (D := G.1) (ci := 10) (v := .ref A_a0_story) (C := RX10) (T := TX10) (N := 8) hx hb hts uX10_age_10 hown hK.1 hP 0 rfl rfl 3 (by decide) (hts (.fieldLink RX10 30 "RingShadow" "story" "LRingShadow$Story;") (List.mem_of_getElem? (i := 1) rfl)) (fun _ h9 => h9) rfl dX10_age_34 ?_
    refine lv_aload_n hx hb dX10_age_37 rfl (lv_at hl 0 rfl) ?_
    refine va_get (D := G.1) (ci := 10) (v := .ref A_a0_world) (C := RX10) (T := TX10) (N := 8) hx hb hts uX10_age_10 hown hK.1 hP 0 rfl rfl 0 (by decide) (hts (.fieldLink RX10 10 "RingShadow" "world" "LRingShadow$World;") (List.mem_of_getElem? (i := 2) rfl)) (fun _ h9 => h9) rfl dX10_age_38 ?_
    obtain ⟨⟨x7, x8, x9, x10, x11, x12, x13, x14, x15, x16, x17, x18, x19, x20, f21, f22⟩, h23, h⟩ := rs_b16s h
    have h := h _ _ _ _ _ _ _ _ _ _ _ _ _ _ _ _ rfl
    refine rs_callVv (As := [.ref A_a0_world]) (rest := []) ⟨hx, hb, hml, hown, hts⟩ (c_X7_begin l G A_a0_story A_a0_world A_a0_story_shadow A_a0_story_stock A_a0_story_hungry A_a0_world_shadow A_a0_world_stock A_a0_world_sights A_a0_story_stock_cells A_a0_world_stock_cells v_a0_story_year v_a0_story_years v_a0_story_hungrySum v_a0_story_acts v_a0_story_badAct v_a0_story_why v_a0_story_loans v_a0_world_year v_a0_story_shadow_lands v_a0_story_shadow_wide v_a0_story_shadow_pace v_a0_story_shadow_age v_a0_story_shadow_slits v_a0_story_shadow_slitA v_a0_story_shadow_slitB v_a0_world_shadow_lands v_a0_world_shadow_wide v_a0_world_shadow_pace v_a0_world_shadow_age v_a0_world_shadow_slits v_a0_world_shadow_slitA v_a0_world_shadow_slitB v_a0_world_stock_cells v_a0_story_stock_cells v_a0_story_hungry N x7 x8 x9 x10 x11 x12 x13 x14 x15 x16 x17 x18 x19 x20 f21 f22 h23) (cwV 1 hts gX10_age_X7_begin rfl rfl rfl (by decide +kernel) ⟨Nat.le_of_ble_eq_true rfl, Nat.le_of_ble_eq_true rfl⟩) dX10_age_41 hK hP hD hS hA [1, 2, 3, 4, 5, 6, 7, 8, 9] rfl (by decide) rfl rfl (q0 := 0) (ci := 7) rfl rfl rfl hl.1 (lv_room (Nat.le_of_ble_eq_true rfl)) ⟨Nat.zero_le _, Nat.zero_le _⟩ (fun (_ : Unit) => [(A_a0, .inr (10, [.ref A_a0_world, .ref A_a0_images, .ref A_a0_pad, .ref A_a0_story, .ref A_a0_walk, .ref A_a0_census, .ref A_a0_carrier, .ref A_a0_cloud])), (A_a0_story, .inr (7, [.ref A_a0_story_shadow, .ref A_a0_story_stock, .ref A_a0_story_hungry, .int x7, .int x8, .int x9, .int x10, .int x11, .int x12, .int x13])), (A_a0_world, .inr (9, [.ref A_a0_world_shadow, .ref A_a0_world_stock, .ref A_a0_world_sights, .int v_a0_world_year])), (A_a0_story_shadow, .inr (4, [.int x14, .int x15, .int x16, .int x17, .int x18, .int x19, .int x20])), (A_a0_world_shadow, .inr (4, [.int v_a0_world_shadow_lands, .int v_a0_world_shadow_wide, .int v_a0_world_shadow_pace, .int v_a0_world_shadow_age, .int v_a0_world_shadow_slits, .int v_a0_world_shadow_slitA, .int v_a0_world_shadow_slitB])), (A_a0_story_stock, .inr (6, [.ref A_a0_story_stock_cells])), (A_a0_world_stock, .inr (6, [.ref A_a0_world_stock_cells])), (A_a0_world_stock_cells, .inl (G.2.1, 36, .inl v_a0_world_stock_cells)), (A_a0_story_stock_cells, .inl (G.2.1, 36, .inl f21)), (A_a0_story_hungry, .inl (G.2.1, 9, .inl f22))]) (fun _ => rfl) (fun _ => rfl) (fun u23 H locs hP hD hS => ?_)
    refine lv_aload_n hx hb dX10_age_44 rfl (lv_at hl 0 rfl) ?_
    refine va_get (D := G.1) (ci := 10) (v := .ref A_a0_story) (C := RX10) (T := TX10) (N := 8) hx hb hts uX10_age_10 hown hK.1 hP 0 rfl rfl 3 (by decide) (hts (.fieldLink RX10 30 "RingShadow" "story" "LRingShadow$Story;") (List.mem_of_getElem? (i := 1) rfl)) (fun _ h9 => h9) rfl dX10_age_45 ?_
    refine lv_iload_n hx hb dX10_age_48 rfl (lv_at hl 1 rfl) ?_
    refine lv_iload_n hx hb dX10_age_49 rfl (lv_at hl 2 rfl) ?_
    obtain ⟨⟨x24, x25, x26, x27, f28, f29⟩, h30, h⟩ := rs_b6s h
    have h := h _ _ _ _ _ _ rfl
    refine rs_callVv (As := [.int p1, .int p2]) (rest := []) ⟨hx, hb, hml, hown, hts⟩ (c_X7_drawYears l G A_a0_story A_a0_story_shadow A_a0_story_stock A_a0_story_hungry A_a0_story_stock_cells x7 x8 x9 x10 x11 x12 x13 x14 x15 x16 x17 x18 x19 x20 f21 f22 p1 p2 N x24 x25 x26 x27 f28 f29 h30) (cwV 2 hts gX10_age_X7_drawYears rfl rfl rfl (by decide +kernel) ⟨Nat.le_of_ble_eq_true rfl, Nat.le_of_ble_eq_true rfl⟩) dX10_age_50 hK hP hD hS hA [1, 3, 5, 8, 9] rfl (by decide) rfl rfl (q0 := 0) (ci := 7) rfl rfl rfl hl.1 (lv_room (Nat.le_of_ble_eq_true rfl)) ⟨Nat.zero_le _, Nat.zero_le _⟩ (fun (_ : Unit) => [(A_a0, .inr (10, [.ref A_a0_world, .ref A_a0_images, .ref A_a0_pad, .ref A_a0_story, .ref A_a0_walk, .ref A_a0_census, .ref A_a0_carrier, .ref A_a0_cloud])), (A_a0_story, .inr (7, [.ref A_a0_story_shadow, .ref A_a0_story_stock, .ref A_a0_story_hungry, .int x24, .int x25, .int x26, .int x10, .int x11, .int x12, .int x27])), (A_a0_world, .inr (9, [.ref A_a0_world_shadow, .ref A_a0_world_stock, .ref A_a0_world_sights, .int v_a0_world_year])), (A_a0_story_shadow, .inr (4, [.int x14, .int x15, .int x16, .int x17, .int x18, .int x19, .int x20])), (A_a0_world_shadow, .inr (4, [.int v_a0_world_shadow_lands, .int v_a0_world_shadow_wide, .int v_a0_world_shadow_pace, .int v_a0_world_shadow_age, .int v_a0_world_shadow_slits, .int v_a0_world_shadow_slitA, .int v_a0_world_shadow_slitB])), (A_a0_story_stock, .inr (6, [.ref A_a0_story_stock_cells])), (A_a0_world_stock, .inr (6, [.ref A_a0_world_stock_cells])), (A_a0_world_stock_cells, .inl (G.2.1, 36, .inl v_a0_world_stock_cells)), (A_a0_story_stock_cells, .inl (G.2.1, 36, .inl f28)), (A_a0_story_hungry, .inl (G.2.1, 9, .inl f29))]) (fun _ => rfl) (fun _ => rfl) (fun u30 H locs hP hD hS => ?_)
    refine lv_iload_n hx hb dX10_age_53 rfl (lv_at hl 3 rfl) ?_
    refine lv_if_ne (tgt := 65) hx hb dX10_age_54 (by decide) (fun hc => ?_) (fun hc => ?_)
    · have h := rs_neg hc h
      refine lv_iload_n hx hb dX10_age_65 rfl (lv_at hl 3 rfl) ?_
      refine lv_iconst (v := 1) hx hb dX10_age_66 (by decide) ?_
      refine lv_icmp_ne (tgt := 93) hx hb dX10_age_67 (by decide) (fun hc => ?_) (fun hc => ?_)
      · have h := rs_neg hc h
        refine lv_aload_n hx hb dX10_age_93 rfl (lv_at hl 0 rfl) ?_
        refine va_get (D := G.1) (ci := 10) (v := .ref A_a0_story) (C := RX10) (T := TX10) (N := 8) hx hb hts uX10_age_10 hown hK.1 hP 0 rfl rfl 3 (by decide) (hts (.fieldLink RX10 30 "RingShadow" "story" "LRingShadow$Story;") (List.mem_of_getElem? (i := 1) rfl)) (fun _ h9 => h9) rfl dX10_age_94 ?_
        refine va_get (D := G.1) (ci := 7) (v := .int x27) (C := RX7) (T := TX7) (N := 10) hx hb hts uX10_age_7 hown hK.1 hP 1 rfl rfl 9 (by decide) (hts (.fieldLink RX10 291 "RingShadow$Story" "loans" "I") (List.mem_of_getElem? (i := 7) rfl)) (fun _ h9 => h9) rfl dX10_age_97 ?_
        exact ret _ _ _ _ _ _ _ _ _ _ _ _ _ _ _ _ _ () _ _ _ _ h hP hS dX10_age_100 rfl
      have h := rs_pos hc h
      refine lv_aload_n hx hb dX10_age_70 rfl (lv_at hl 0 rfl) ?_
      refine va_get (D := G.1) (ci := 10) (v := .ref A_a0_story) (C := RX10) (T := TX10) (N := 8) hx hb hts uX10_age_10 hown hK.1 hP 0 rfl rfl 3 (by decide) (hts (.fieldLink RX10 30 "RingShadow" "story" "LRingShadow$Story;") (List.mem_of_getElem? (i := 1) rfl)) (fun _ h9 => h9) rfl dX10_age_71 ?_
      refine va_get (D := G.1) (ci := 7) (v := .ref A_a0_story_stock) (C := RX7) (T := TX7) (N := 10) hx hb hts uX10_age_7 hown hK.1 hP 1 rfl rfl 1 (by decide) (hts (.fieldLink RX10 153 "RingShadow$Story" "stock" "LRingShadow$Stock;") (List.mem_of_getElem? (i := 4) rfl)) (fun _ h9 => h9) rfl dX10_age_74 ?_
      refine lv_aload_n hx hb dX10_age_77 rfl (lv_at hl 0 rfl) ?_
      refine va_get (D := G.1) (ci := 10) (v := .ref A_a0_story) (C := RX10) (T := TX10) (N := 8) hx hb hts uX10_age_10 hown hK.1 hP 0 rfl rfl 3 (by decide) (hts (.fieldLink RX10 30 "RingShadow" "story" "LRingShadow$Story;") (List.mem_of_getElem? (i := 1) rfl)) (fun _ h9 => h9) rfl dX10_age_78 ?_
      refine va_get (D := G.1) (ci := 7) (v := .ref A_a0_story_shadow) (C := RX7) (T := TX7) (N := 10) hx hb hts uX10_age_7 hown hK.1 hP 1 rfl rfl 0 (by decide) (hts (.fieldLink RX10 162 "RingShadow$Story" "shadow" "LRingShadow$Shadow;") (List.mem_of_getElem? (i := 5) rfl)) (fun _ h9 => h9) rfl dX10_age_81 ?_
      refine va_get (D := G.1) (ci := 4) (v := .int x14) (C := RX4) (T := TX4) (N := 7) hx hb hts uX10_age_4 hown hK.1 hP 3 rfl rfl 0 (by decide) (hts (.fieldLink RX10 70 "RingShadow$Shadow" "lands" "I") (List.mem_of_getElem? (i := 6) rfl)) (fun _ h9 => h9) rfl dX10_age_84 ?_
      obtain ⟨x31, h32, h⟩ := rs_b1s h
      have h := h _ rfl
      refine rs_callVi (As := [.int x14]) (rest := []) ⟨hx, hb, hml, hown, hts⟩ (c_X6_together l G A_a0_story_stock A_a0_story_stock_cells f28 x14 N x31 h32) (cwV 1 hts gX10_age_X6_together rfl rfl rfl (by decide +kernel) ⟨Nat.le_of_ble_eq_true rfl, Nat.le_of_ble_eq_true rfl⟩) dX10_age_87 hK hP hD hS hA [5, 8] rfl (by decide) rfl rfl (q0 := 0) (ci := 6) rfl rfl rfl hl.1 (lv_room (Nat.le_of_ble_eq_true rfl)) ⟨Nat.zero_le _, Nat.zero_le _⟩ (fun (_ : Unit) => [(A_a0, .inr (10, [.ref A_a0_world, .ref A_a0_images, .ref A_a0_pad, .ref A_a0_story, .ref A_a0_walk, .ref A_a0_census, .ref A_a0_carrier, .ref A_a0_cloud])), (A_a0_story, .inr (7, [.ref A_a0_story_shadow, .ref A_a0_story_stock, .ref A_a0_story_hungry, .int x24, .int x25, .int x26, .int x10, .int x11, .int x12, .int x27])), (A_a0_world, .inr (9, [.ref A_a0_world_shadow, .ref A_a0_world_stock, .ref A_a0_world_sights, .int v_a0_world_year])), (A_a0_story_shadow, .inr (4, [.int x14, .int x15, .int x16, .int x17, .int x18, .int x19, .int x20])), (A_a0_world_shadow, .inr (4, [.int v_a0_world_shadow_lands, .int v_a0_world_shadow_wide, .int v_a0_world_shadow_pace, .int v_a0_world_shadow_age, .int v_a0_world_shadow_slits, .int v_a0_world_shadow_slitA, .int v_a0_world_shadow_slitB])), (A_a0_story_stock, .inr (6, [.ref A_a0_story_stock_cells])), (A_a0_world_stock, .inr (6, [.ref A_a0_world_stock_cells])), (A_a0_world_stock_cells, .inl (G.2.1, 36, .inl v_a0_world_stock_cells)), (A_a0_story_stock_cells, .inl (G.2.1, 36, .inl f28)), (A_a0_story_hungry, .inl (G.2.1, 9, .inl f29))]) (fun _ => rfl) (fun _ => rfl) (fun u32 H locs hP hD hS => ?_)
      refine lv_goto (tgt := 100) hx hb dX10_age_90 (by decide) ?_
      exact ret _ _ _ _ _ _ _ _ _ _ _ _ _ _ _ _ _ () _ _ _ _ h hP hS dX10_age_100 rfl
    have h := rs_pos hc h
    refine lv_aload_n hx hb dX10_age_57 rfl (lv_at hl 0 rfl) ?_
    refine va_get (D := G.1) (ci := 10) (v := .ref A_a0_story) (C := RX10) (T := TX10) (N := 8) hx hb hts uX10_age_10 hown hK.1 hP 0 rfl rfl 3 (by decide) (hts (.fieldLink RX10 30 "RingShadow" "story" "LRingShadow$Story;") (List.mem_of_getElem? (i := 1) rfl)) (fun _ h9 => h9) rfl dX10_age_58 ?_
    refine va_get (D := G.1) (ci := 7) (v := .int x26) (C := RX7) (T := TX7) (N := 10) hx hb hts uX10_age_7 hown hK.1 hP 1 rfl rfl 5 (by decide) (hts (.fieldLink RX10 150 "RingShadow$Story" "hungrySum" "I") (List.mem_of_getElem? (i := 3) rfl)) (fun _ h9 => h9) rfl dX10_age_61 ?_
    exact ret _ _ _ _ _ _ _ _ _ _ _ _ _ _ _ _ _ () _ _ _ _ h hP hS dX10_age_64 rfl
  have h := rs_pos hc h
  refine lv_bipush (v := (-2)) hx hb dX10_age_30 (by decide) ?_
  exact ret _ _ _ _ _ _ _ _ _ _ _ _ _ _ _ _ _ () _ _ _ _ h hP hS dX10_age_32 rfl
theorem uX10_told_10 : ∀ w ∈ wsX100, w ∈ wsX10_told := fun _ h => List.mem_cons_of_mem _ (List.mem_append_left _ (List.mem_append_left _ (List.mem_append_left _ (List.mem_append_left _ (List.mem_append_left _ (List.mem_append_right _ h))))))
theorem uX10_told_3 : ∀ w ∈ wsX30, w ∈ wsX10_told := fun _ h => List.mem_cons_of_mem _ (List.mem_append_left _ (List.mem_append_left _ (List.mem_append_left _ (List.mem_append_right _ h))))
theorem uX10_told_4 : ∀ w ∈ wsX40, w ∈ wsX10_told := fun _ h => List.mem_cons_of_mem _ (List.mem_append_left _ (List.mem_append_left _ (List.mem_append_right _ h)))
theorem uX10_told_5 : ∀ w ∈ wsX50, w ∈ wsX10_told := fun _ h => List.mem_cons_of_mem _ (List.mem_append_left _ (List.mem_append_right _ h))
theorem uX10_told_9 : ∀ w ∈ wsX90, w ∈ wsX10_told := fun _ h => List.mem_cons_of_mem _ (List.mem_append_left _ (List.mem_append_left _ (List.mem_append_left _ (List.mem_append_left _ (List.mem_append_right _ h)))))
abbrev rmX10_told : Room := { frames := 2, cells := 0, slots := 0, locals := 43 }
set_option maxRecDepth 100000 in
set_option maxHeartbeats 4000000 in
theorem c_X10_told (l : Launch) (G : rs_G) (A_a0 : Nat) (A_a0_world : Nat) (A_a0_images : Nat) (A_a0_pad : Nat) (A_a0_story : Nat) (A_a0_walk : Nat) (A_a0_census : Nat) (A_a0_carrier : Nat) (A_a0_cloud : Nat) (A_a0_world_shadow : Nat) (A_a0_world_stock : Nat) (A_a0_world_sights : Nat) (A_a0_world_stock_cells : Nat) (A_a0_world_sights_lands : Nat) (A_a0_world_sights_years : Nat) (A_a0_world_sights_covers : Nat) (A_a0_pad_signs : Nat) (v_a0_world_year : Int32) (v_a0_world_shadow_lands : Int32) (v_a0_world_shadow_wide : Int32) (v_a0_world_shadow_pace : Int32) (v_a0_world_shadow_age : Int32) (v_a0_world_shadow_slits : Int32) (v_a0_world_shadow_slitA : Int32) (v_a0_world_shadow_slitB : Int32) (v_a0_world_stock_cells : (Nat → Int32)) (v_a0_world_sights_count : Int32) (v_a0_pad_count : Int32) (p1 : Int32) (r0 : Int32) (h : f_X10_told p1 v_a0_world_year v_a0_world_shadow_lands v_a0_world_shadow_wide v_a0_world_shadow_pace v_a0_world_shadow_age v_a0_world_shadow_slits v_a0_world_shadow_slitA v_a0_world_shadow_slitB v_a0_world_stock_cells v_a0_world_sights_count v_a0_pad_count = some r0) : rs_Ci l yX10_told wsX10_told rmX10_told G [.ref A_a0, .int p1] [(A_a0, .inr (10, [.ref A_a0_world, .ref A_a0_images, .ref A_a0_pad, .ref A_a0_story, .ref A_a0_walk, .ref A_a0_census, .ref A_a0_carrier, .ref A_a0_cloud])), (A_a0_world, .inr (9, [.ref A_a0_world_shadow, .ref A_a0_world_stock, .ref A_a0_world_sights, .int v_a0_world_year])), (A_a0_world_shadow, .inr (4, [.int v_a0_world_shadow_lands, .int v_a0_world_shadow_wide, .int v_a0_world_shadow_pace, .int v_a0_world_shadow_age, .int v_a0_world_shadow_slits, .int v_a0_world_shadow_slitA, .int v_a0_world_shadow_slitB])), (A_a0_world_stock, .inr (6, [.ref A_a0_world_stock_cells])), (A_a0_world_stock_cells, .inl (G.2.1, 36, .inl v_a0_world_stock_cells)), (A_a0_world_sights, .inr (5, [.ref A_a0_world_sights_lands, .ref A_a0_world_sights_years, .ref A_a0_world_sights_covers, .int v_a0_world_sights_count])), (A_a0_pad, .inr (3, [.ref A_a0_pad_signs, .int v_a0_pad_count]))] (fun (_ : Unit) => [(A_a0, .inr (10, [.ref A_a0_world, .ref A_a0_images, .ref A_a0_pad, .ref A_a0_story, .ref A_a0_walk, .ref A_a0_census, .ref A_a0_carrier, .ref A_a0_cloud])), (A_a0_world, .inr (9, [.ref A_a0_world_shadow, .ref A_a0_world_stock, .ref A_a0_world_sights, .int v_a0_world_year])), (A_a0_world_shadow, .inr (4, [.int v_a0_world_shadow_lands, .int v_a0_world_shadow_wide, .int v_a0_world_shadow_pace, .int v_a0_world_shadow_age, .int v_a0_world_shadow_slits, .int v_a0_world_shadow_slitA, .int v_a0_world_shadow_slitB])), (A_a0_world_stock, .inr (6, [.ref A_a0_world_stock_cells])), (A_a0_world_stock_cells, .inl (G.2.1, 36, .inl v_a0_world_stock_cells)), (A_a0_world_sights, .inr (5, [.ref A_a0_world_sights_lands, .ref A_a0_world_sights_years, .ref A_a0_world_sights_covers, .int v_a0_world_sights_count])), (A_a0_pad, .inr (3, [.ref A_a0_pad_signs, .int v_a0_pad_count]))]) r0 := by
  refine rs_enter_i (cc := cX10_told) (maxL := 4) (ty := .int) (by decide) rfl (Nat.le_of_ble_eq_true rfl) (fun p e s m args below meth c A Q ls E ret hP hD hS hA hl => ?_)
  obtain ⟨hx, hb, hml, hown, hts, hK⟩ := E
  have hown : s.vm.findClass RX10 = some m.cls := hown
  have hl : lv_has ls 4 [(0, .ref A_a0), (1, .int p1)] := hl
  have ret : ∀ (v0 : Int32) (u : Unit) (H : Heap) (locs : List Loc) (pc : Nat) (ls : Array Slot), some v0 = some r0 → va_P G.1 vwCl [(A_a0, .inr (10, [.ref A_a0_world, .ref A_a0_images, .ref A_a0_pad, .ref A_a0_story, .ref A_a0_walk, .ref A_a0_census, .ref A_a0_carrier, .ref A_a0_cloud])), (A_a0_world, .inr (9, [.ref A_a0_world_shadow, .ref A_a0_world_stock, .ref A_a0_world_sights, .int v_a0_world_year])), (A_a0_world_shadow, .inr (4, [.int v_a0_world_shadow_lands, .int v_a0_world_shadow_wide, .int v_a0_world_shadow_pace, .int v_a0_world_shadow_age, .int v_a0_world_shadow_slits, .int v_a0_world_shadow_slitA, .int v_a0_world_shadow_slitB])), (A_a0_world_stock, .inr (6, [.ref A_a0_world_stock_cells])), (A_a0_world_stock_cells, .inl (G.2.1, 36, .inl v_a0_world_stock_cells)), (A_a0_world_sights, .inr (5, [.ref A_a0_world_sights_lands, .ref A_a0_world_sights_years, .ref A_a0_world_sights_covers, .int v_a0_world_sights_count])), (A_a0_pad, .inr (3, [.ref A_a0_pad_signs, .int v_a0_pad_count]))] H → va_S A s.heap H locs → decode cX10_told pc = .ok (.ireturn, 1) → narrow .int (.int v0) = .int v0 → W p l e rmX10_told s m args below meth c H locs 0 0 Q (F0 m pc ls [.int v0]) := by
    intro v0 u H locs pc ls hz
    cases hz
    exact ret u H locs pc ls
  unfold f_X10_told at h
  refine lv_iload_n hx hb dX10_told_0 rfl (lv_at hl 1 rfl) ?_
  refine lv_bipush (v := 10) hx hb dX10_told_1 (by decide) ?_
  refine lv_icmp_lt (tgt := 49) hx hb dX10_told_3 (by decide) (fun hc => ?_) (fun hc => ?_)
  · have h := rs_pos hc h
    refine lv_iload_n hx hb dX10_told_49 rfl (lv_at hl 1 rfl) ?_
    by_cases c0 : p1 = 0
    · have h := rs_pos c0 h
      refine lv_tableIn (off := 54) (tgt := 104) hx hb dX10_told_50 (by rw [c0]; decide) (by rw [c0]; decide) (by rw [c0]; rfl) (by decide) ?_
      refine lv_aload_n hx hb dX10_told_104 rfl (lv_at hl 0 rfl) ?_
      refine va_get (D := G.1) (ci := 10) (v := .ref A_a0_pad) (C := RX10) (T := TX10) (N := 8) hx hb hts uX10_told_10 hown hK.1 hP 0 rfl rfl 2 (by decide) (hts (.fieldLink RX10 23 "RingShadow" "pad" "LRingShadow$Pad;") (List.mem_of_getElem? (i := 3) rfl)) (fun _ h9 => h9) rfl dX10_told_105 ?_
      refine va_get (D := G.1) (ci := 3) (v := .int v_a0_pad_count) (C := RX3) (T := TX3) (N := 2) hx hb hts uX10_told_3 hown hK.1 hP 6 rfl rfl 1 (by decide) (hts (.fieldLink RX10 133 "RingShadow$Pad" "count" "I") (List.mem_of_getElem? (i := 4) rfl)) (fun _ h9 => h9) rfl dX10_told_108 ?_
      exact ret _ () _ _ _ _ h hP hS dX10_told_111 rfl
    have h := rs_neg c0 h
    by_cases c1 : p1 = 1
    · have h := rs_pos c1 h
      refine lv_tableIn (off := 62) (tgt := 112) hx hb dX10_told_50 (by rw [c1]; decide) (by rw [c1]; decide) (by rw [c1]; rfl) (by decide) ?_
      refine lv_aload_n hx hb dX10_told_112 rfl (lv_at hl 0 rfl) ?_
      refine va_get (D := G.1) (ci := 10) (v := .ref A_a0_world) (C := RX10) (T := TX10) (N := 8) hx hb hts uX10_told_10 hown hK.1 hP 0 rfl rfl 0 (by decide) (hts (.fieldLink RX10 10 "RingShadow" "world" "LRingShadow$World;") (List.mem_of_getElem? (i := 1) rfl)) (fun _ h9 => h9) rfl dX10_told_113 ?_
      refine va_get (D := G.1) (ci := 9) (v := .ref A_a0_world_shadow) (C := RX9) (T := TX9) (N := 4) hx hb hts uX10_told_9 hown hK.1 hP 1 rfl rfl 0 (by decide) (hts (.fieldLink RX10 66 "RingShadow$World" "shadow" "LRingShadow$Shadow;") (List.mem_of_getElem? (i := 5) rfl)) (fun _ h9 => h9) rfl dX10_told_116 ?_
      refine va_get (D := G.1) (ci := 4) (v := .int v_a0_world_shadow_lands) (C := RX4) (T := TX4) (N := 7) hx hb hts uX10_told_4 hown hK.1 hP 2 rfl rfl 0 (by decide) (hts (.fieldLink RX10 70 "RingShadow$Shadow" "lands" "I") (List.mem_of_getElem? (i := 6) rfl)) (fun _ h9 => h9) rfl dX10_told_119 ?_
      exact ret _ () _ _ _ _ h hP hS dX10_told_122 rfl
    have h := rs_neg c1 h
    by_cases c2 : p1 = 2
    · have h := rs_pos c2 h
      refine lv_tableIn (off := 73) (tgt := 123) hx hb dX10_told_50 (by rw [c2]; decide) (by rw [c2]; decide) (by rw [c2]; rfl) (by decide) ?_
      refine lv_aload_n hx hb dX10_told_123 rfl (lv_at hl 0 rfl) ?_
      refine va_get (D := G.1) (ci := 10) (v := .ref A_a0_world) (C := RX10) (T := TX10) (N := 8) hx hb hts uX10_told_10 hown hK.1 hP 0 rfl rfl 0 (by decide) (hts (.fieldLink RX10 10 "RingShadow" "world" "LRingShadow$World;") (List.mem_of_getElem? (i := 1) rfl)) (fun _ h9 => h9) rfl dX10_told_124 ?_
      refine va_get (D := G.1) (ci := 9) (v := .ref A_a0_world_shadow) (C := RX9) (T := TX9) (N := 4) hx hb hts uX10_told_9 hown hK.1 hP 1 rfl rfl 0 (by decide) (hts (.fieldLink RX10 66 "RingShadow$World" "shadow" "LRingShadow$Shadow;") (List.mem_of_getElem? (i := 5) rfl)) (fun _ h9 => h9) rfl dX10_told_127 ?_
      refine va_get (D := G.1) (ci := 4) (v := .int v_a0_world_shadow_wide) (C := RX4) (T := TX4) (N := 7) hx hb hts uX10_told_4 hown hK.1 hP 2 rfl rfl 1 (by decide) (hts (.fieldLink RX10 76 "RingShadow$Shadow" "wide" "I") (List.mem_of_getElem? (i := 7) rfl)) (fun _ h9 => h9) rfl dX10_told_130 ?_
      exact ret _ () _ _ _ _ h hP hS dX10_told_133 rfl
    have h := rs_neg c2 h
    by_cases c3 : p1 = 3
    · have h := rs_pos c3 h
      refine lv_tableIn (off := 103) (tgt := 153) hx hb dX10_told_50 (by rw [c3]; decide) (by rw [c3]; decide) (by rw [c3]; rfl) (by decide) ?_
      refine lv_iload_n hx hb dX10_told_153 rfl (lv_at hl 1 rfl) ?_
      refine lv_iconst (v := 3) hx hb dX10_told_154 (by decide) ?_
      refine lv_bipush (v := 7) hx hb dX10_told_155 (by decide) ?_
      obtain ⟨x1, h2, h⟩ := rs_b1s h
      have h := h _ rfl
      refine rs_callSi (As := [.int p1, .int 3, .int 7]) (rest := []) ⟨hx, hb, hml, hown, hts⟩ (c_X10_within l G p1 3 7 x1 h2) (va_cwS 3 hts gX10_told_X10_within rfl rfl rfl (by decide +kernel) ⟨Nat.le_of_ble_eq_true rfl, Nat.le_of_ble_eq_true rfl⟩) dX10_told_157 hK hP hD hS hA [] rfl (by decide) rfl rfl hl.1 (lv_room (Nat.le_of_ble_eq_true rfl)) ⟨Nat.zero_le _, Nat.zero_le _⟩ (fun (_ : Unit) => [(A_a0, .inr (10, [.ref A_a0_world, .ref A_a0_images, .ref A_a0_pad, .ref A_a0_story, .ref A_a0_walk, .ref A_a0_census, .ref A_a0_carrier, .ref A_a0_cloud])), (A_a0_world, .inr (9, [.ref A_a0_world_shadow, .ref A_a0_world_stock, .ref A_a0_world_sights, .int v_a0_world_year])), (A_a0_world_shadow, .inr (4, [.int v_a0_world_shadow_lands, .int v_a0_world_shadow_wide, .int v_a0_world_shadow_pace, .int v_a0_world_shadow_age, .int v_a0_world_shadow_slits, .int v_a0_world_shadow_slitA, .int v_a0_world_shadow_slitB])), (A_a0_world_stock, .inr (6, [.ref A_a0_world_stock_cells])), (A_a0_world_stock_cells, .inl (G.2.1, 36, .inl v_a0_world_stock_cells)), (A_a0_world_sights, .inr (5, [.ref A_a0_world_sights_lands, .ref A_a0_world_sights_years, .ref A_a0_world_sights_covers, .int v_a0_world_sights_count])), (A_a0_pad, .inr (3, [.ref A_a0_pad_signs, .int v_a0_pad_count]))]) (fun _ => rfl) (fun _ => rfl) (fun u2 H locs hP hD hS => ?_)
      refine lv_if_eq (tgt := 179) hx hb dX10_told_160 (by decide) (fun hc => ?_) (fun hc => ?_)
      · have h := rs_pos hc h
        refine lv_bipush (v := (-2)) hx hb dX10_told_179 (by decide) ?_
        exact ret _ () _ _ _ _ h hP hS dX10_told_181 rfl
      have h := rs_neg hc h
      refine lv_aload_n hx hb dX10_told_163 rfl (lv_at hl 0 rfl) ?_
      refine va_get (D := G.1) (ci := 10) (v := .ref A_a0_world) (C := RX10) (T := TX10) (N := 8) hx hb hts uX10_told_10 hown hK.1 hP 0 rfl rfl 0 (by decide) (hts (.fieldLink RX10 10 "RingShadow" "world" "LRingShadow$World;") (List.mem_of_getElem? (i := 1) rfl)) (fun _ h9 => h9) rfl dX10_told_164 ?_
      refine va_get (D := G.1) (ci := 9) (v := .ref A_a0_world_shadow) (C := RX9) (T := TX9) (N := 4) hx hb hts uX10_told_9 hown hK.1 hP 1 rfl rfl 0 (by decide) (hts (.fieldLink RX10 66 "RingShadow$World" "shadow" "LRingShadow$Shadow;") (List.mem_of_getElem? (i := 5) rfl)) (fun _ h9 => h9) rfl dX10_told_167 ?_
      refine lv_iload_n hx hb dX10_told_170 rfl (lv_at hl 1 rfl) ?_
      refine lv_iconst (v := 3) hx hb dX10_told_171 (by decide) ?_
      refine lv_isub hx hb dX10_told_172 ?_
      obtain ⟨x3, h4, h⟩ := rs_b1s h
      have h := h _ rfl
      refine rs_callVi (As := [.int (p1 - 3)]) (rest := []) ⟨hx, hb, hml, hown, hts⟩ (c_X4_rule l G A_a0_world_shadow v_a0_world_shadow_lands v_a0_world_shadow_wide v_a0_world_shadow_pace v_a0_world_shadow_age v_a0_world_shadow_slits v_a0_world_shadow_slitA v_a0_world_shadow_slitB (p1 - 3) x3 h4) (cwV 1 hts gX10_told_X4_rule rfl rfl rfl (by decide +kernel) ⟨Nat.le_of_ble_eq_true rfl, Nat.le_of_ble_eq_true rfl⟩) dX10_told_173 hK hP hD hS hA [2] rfl (by decide) rfl rfl (q0 := 0) (ci := 4) rfl rfl rfl hl.1 (lv_room (Nat.le_of_ble_eq_true rfl)) ⟨Nat.zero_le _, Nat.zero_le _⟩ (fun (_ : Unit) => [(A_a0, .inr (10, [.ref A_a0_world, .ref A_a0_images, .ref A_a0_pad, .ref A_a0_story, .ref A_a0_walk, .ref A_a0_census, .ref A_a0_carrier, .ref A_a0_cloud])), (A_a0_world, .inr (9, [.ref A_a0_world_shadow, .ref A_a0_world_stock, .ref A_a0_world_sights, .int v_a0_world_year])), (A_a0_world_shadow, .inr (4, [.int v_a0_world_shadow_lands, .int v_a0_world_shadow_wide, .int v_a0_world_shadow_pace, .int v_a0_world_shadow_age, .int v_a0_world_shadow_slits, .int v_a0_world_shadow_slitA, .int v_a0_world_shadow_slitB])), (A_a0_world_stock, .inr (6, [.ref A_a0_world_stock_cells])), (A_a0_world_stock_cells, .inl (G.2.1, 36, .inl v_a0_world_stock_cells)), (A_a0_world_sights, .inr (5, [.ref A_a0_world_sights_lands, .ref A_a0_world_sights_years, .ref A_a0_world_sights_covers, .int v_a0_world_sights_count])), (A_a0_pad, .inr (3, [.ref A_a0_pad_signs, .int v_a0_pad_count]))]) (fun _ => rfl) (fun _ => rfl) (fun u4 H locs hP hD hS => ?_)
      refine lv_goto (tgt := 181) hx hb dX10_told_176 (by decide) ?_
      exact ret _ () _ _ _ _ h hP hS dX10_told_181 rfl
    have h := rs_neg c3 h
    by_cases c4 : p1 = 4
    · have h := rs_pos c4 h
      refine lv_tableIn (off := 103) (tgt := 153) hx hb dX10_told_50 (by rw [c4]; decide) (by rw [c4]; decide) (by rw [c4]; rfl) (by decide) ?_
      refine lv_iload_n hx hb dX10_told_153 rfl (lv_at hl 1 rfl) ?_
      refine lv_iconst (v := 3) hx hb dX10_told_154 (by decide) ?_
      refine lv_bipush (v := 7) hx hb dX10_told_155 (by decide) ?_
      obtain ⟨x5, h6, h⟩ := rs_b1s h
      have h := h _ rfl
      refine rs_callSi (As := [.int p1, .int 3, .int 7]) (rest := []) ⟨hx, hb, hml, hown, hts⟩ (c_X10_within l G p1 3 7 x5 h6) (va_cwS 3 hts gX10_told_X10_within rfl rfl rfl (by decide +kernel) ⟨Nat.le_of_ble_eq_true rfl, Nat.le_of_ble_eq_true rfl⟩) dX10_told_157 hK hP hD hS hA [] rfl (by decide) rfl rfl hl.1 (lv_room (Nat.le_of_ble_eq_true rfl)) ⟨Nat.zero_le _, Nat.zero_le _⟩ (fun (_ : Unit) => [(A_a0, .inr (10, [.ref A_a0_world, .ref A_a0_images, .ref A_a0_pad, .ref A_a0_story, .ref A_a0_walk, .ref A_a0_census, .ref A_a0_carrier, .ref A_a0_cloud])), (A_a0_world, .inr (9, [.ref A_a0_world_shadow, .ref A_a0_world_stock, .ref A_a0_world_sights, .int v_a0_world_year])), (A_a0_world_shadow, .inr (4, [.int v_a0_world_shadow_lands, .int v_a0_world_shadow_wide, .int v_a0_world_shadow_pace, .int v_a0_world_shadow_age, .int v_a0_world_shadow_slits, .int v_a0_world_shadow_slitA, .int v_a0_world_shadow_slitB])), (A_a0_world_stock, .inr (6, [.ref A_a0_world_stock_cells])), (A_a0_world_stock_cells, .inl (G.2.1, 36, .inl v_a0_world_stock_cells)), (A_a0_world_sights, .inr (5, [.ref A_a0_world_sights_lands, .ref A_a0_world_sights_years, .ref A_a0_world_sights_covers, .int v_a0_world_sights_count])), (A_a0_pad, .inr (3, [.ref A_a0_pad_signs, .int v_a0_pad_count]))]) (fun _ => rfl) (fun _ => rfl) (fun u6 H locs hP hD hS => ?_)
      refine lv_if_eq (tgt := 179) hx hb dX10_told_160 (by decide) (fun hc => ?_) (fun hc => ?_)
      · have h := rs_pos hc h
        refine lv_bipush (v := (-2)) hx hb dX10_told_179 (by decide) ?_
        exact ret _ () _ _ _ _ h hP hS dX10_told_181 rfl
      have h := rs_neg hc h
      refine lv_aload_n hx hb dX10_told_163 rfl (lv_at hl 0 rfl) ?_
      refine va_get (D := G.1) (ci := 10) (v := .ref A_a0_world) (C := RX10) (T := TX10) (N := 8) hx hb hts uX10_told_10 hown hK.1 hP 0 rfl rfl 0 (by decide) (hts (.fieldLink RX10 10 "RingShadow" "world" "LRingShadow$World;") (List.mem_of_getElem? (i := 1) rfl)) (fun _ h9 => h9) rfl dX10_told_164 ?_
      refine va_get (D := G.1) (ci := 9) (v := .ref A_a0_world_shadow) (C := RX9) (T := TX9) (N := 4) hx hb hts uX10_told_9 hown hK.1 hP 1 rfl rfl 0 (by decide) (hts (.fieldLink RX10 66 "RingShadow$World" "shadow" "LRingShadow$Shadow;") (List.mem_of_getElem? (i := 5) rfl)) (fun _ h9 => h9) rfl dX10_told_167 ?_
      refine lv_iload_n hx hb dX10_told_170 rfl (lv_at hl 1 rfl) ?_
      refine lv_iconst (v := 3) hx hb dX10_told_171 (by decide) ?_
      refine lv_isub hx hb dX10_told_172 ?_
      obtain ⟨x7, h8, h⟩ := rs_b1s h
      have h := h _ rfl
      refine rs_callVi (As := [.int (p1 - 3)]) (rest := []) ⟨hx, hb, hml, hown, hts⟩ (c_X4_rule l G A_a0_world_shadow v_a0_world_shadow_lands v_a0_world_shadow_wide v_a0_world_shadow_pace v_a0_world_shadow_age v_a0_world_shadow_slits v_a0_world_shadow_slitA v_a0_world_shadow_slitB (p1 - 3) x7 h8) (cwV 1 hts gX10_told_X4_rule rfl rfl rfl (by decide +kernel) ⟨Nat.le_of_ble_eq_true rfl, Nat.le_of_ble_eq_true rfl⟩) dX10_told_173 hK hP hD hS hA [2] rfl (by decide) rfl rfl (q0 := 0) (ci := 4) rfl rfl rfl hl.1 (lv_room (Nat.le_of_ble_eq_true rfl)) ⟨Nat.zero_le _, Nat.zero_le _⟩ (fun (_ : Unit) => [(A_a0, .inr (10, [.ref A_a0_world, .ref A_a0_images, .ref A_a0_pad, .ref A_a0_story, .ref A_a0_walk, .ref A_a0_census, .ref A_a0_carrier, .ref A_a0_cloud])), (A_a0_world, .inr (9, [.ref A_a0_world_shadow, .ref A_a0_world_stock, .ref A_a0_world_sights, .int v_a0_world_year])), (A_a0_world_shadow, .inr (4, [.int v_a0_world_shadow_lands, .int v_a0_world_shadow_wide, .int v_a0_world_shadow_pace, .int v_a0_world_shadow_age, .int v_a0_world_shadow_slits, .int v_a0_world_shadow_slitA, .int v_a0_world_shadow_slitB])), (A_a0_world_stock, .inr (6, [.ref A_a0_world_stock_cells])), (A_a0_world_stock_cells, .inl (G.2.1, 36, .inl v_a0_world_stock_cells)), (A_a0_world_sights, .inr (5, [.ref A_a0_world_sights_lands, .ref A_a0_world_sights_years, .ref A_a0_world_sights_covers, .int v_a0_world_sights_count])), (A_a0_pad, .inr (3, [.ref A_a0_pad_signs, .int v_a0_pad_count]))]) (fun _ => rfl) (fun _ => rfl) (fun u8 H locs hP hD hS => ?_)
      refine lv_goto (tgt := 181) hx hb dX10_told_176 (by decide) ?_
      exact ret _ () _ _ _ _ h hP hS dX10_told_181 rfl
    have h := rs_neg c4 h
    by_cases c5 : p1 = 5
    · have h := rs_pos c5 h
      refine lv_tableIn (off := 103) (tgt := 153) hx hb dX10_told_50 (by rw [c5]; decide) (by rw [c5]; decide) (by rw [c5]; rfl) (by decide) ?_
      refine lv_iload_n hx hb dX10_told_153 rfl (lv_at hl 1 rfl) ?_
      refine lv_iconst (v := 3) hx hb dX10_told_154 (by decide) ?_
      refine lv_bipush (v := 7) hx hb dX10_told_155 (by decide) ?_
      obtain ⟨x9, h10, h⟩ := rs_b1s h
      have h := h _ rfl
      refine rs_callSi (As := [.int p1, .int 3, .int 7]) (rest := []) ⟨hx, hb, hml, hown, hts⟩ (c_X10_within l G p1 3 7 x9 h10) (va_cwS 3 hts gX10_told_X10_within rfl rfl rfl (by decide +kernel) ⟨Nat.le_of_ble_eq_true rfl, Nat.le_of_ble_eq_true rfl⟩) dX10_told_157 hK hP hD hS hA [] rfl (by decide) rfl rfl hl.1 (lv_room (Nat.le_of_ble_eq_true rfl)) ⟨Nat.zero_le _, Nat.zero_le _⟩ (fun (_ : Unit) => [(A_a0, .inr (10, [.ref A_a0_world, .ref A_a0_images, .ref A_a0_pad, .ref A_a0_story, .ref A_a0_walk, .ref A_a0_census, .ref A_a0_carrier, .ref A_a0_cloud])), (A_a0_world, .inr (9, [.ref A_a0_world_shadow, .ref A_a0_world_stock, .ref A_a0_world_sights, .int v_a0_world_year])), (A_a0_world_shadow, .inr (4, [.int v_a0_world_shadow_lands, .int v_a0_world_shadow_wide, .int v_a0_world_shadow_pace, .int v_a0_world_shadow_age, .int v_a0_world_shadow_slits, .int v_a0_world_shadow_slitA, .int v_a0_world_shadow_slitB])), (A_a0_world_stock, .inr (6, [.ref A_a0_world_stock_cells])), (A_a0_world_stock_cells, .inl (G.2.1, 36, .inl v_a0_world_stock_cells)), (A_a0_world_sights, .inr (5, [.ref A_a0_world_sights_lands, .ref A_a0_world_sights_years, .ref A_a0_world_sights_covers, .int v_a0_world_sights_count])), (A_a0_pad, .inr (3, [.ref A_a0_pad_signs, .int v_a0_pad_count]))]) (fun _ => rfl) (fun _ => rfl) (fun u10 H locs hP hD hS => ?_)
      refine lv_if_eq (tgt := 179) hx hb dX10_told_160 (by decide) (fun hc => ?_) (fun hc => ?_)
      · have h := rs_pos hc h
        refine lv_bipush (v := (-2)) hx hb dX10_told_179 (by decide) ?_
        exact ret _ () _ _ _ _ h hP hS dX10_told_181 rfl
      have h := rs_neg hc h
      refine lv_aload_n hx hb dX10_told_163 rfl (lv_at hl 0 rfl) ?_
      refine va_get (D := G.1) (ci := 10) (v := .ref A_a0_world) (C := RX10) (T := TX10) (N := 8) hx hb hts uX10_told_10 hown hK.1 hP 0 rfl rfl 0 (by decide) (hts (.fieldLink RX10 10 "RingShadow" "world" "LRingShadow$World;") (List.mem_of_getElem? (i := 1) rfl)) (fun _ h9 => h9) rfl dX10_told_164 ?_
      refine va_get (D := G.1) (ci := 9) (v := .ref A_a0_world_shadow) (C := RX9) (T := TX9) (N := 4) hx hb hts uX10_told_9 hown hK.1 hP 1 rfl rfl 0 (by decide) (hts (.fieldLink RX10 66 "RingShadow$World" "shadow" "LRingShadow$Shadow;") (List.mem_of_getElem? (i := 5) rfl)) (fun _ h9 => h9) rfl dX10_told_167 ?_
      refine lv_iload_n hx hb dX10_told_170 rfl (lv_at hl 1 rfl) ?_
      refine lv_iconst (v := 3) hx hb dX10_told_171 (by decide) ?_
      refine lv_isub hx hb dX10_told_172 ?_
      obtain ⟨x11, h12, h⟩ := rs_b1s h
      have h := h _ rfl
      refine rs_callVi (As := [.int (p1 - 3)]) (rest := []) ⟨hx, hb, hml, hown, hts⟩ (c_X4_rule l G A_a0_world_shadow v_a0_world_shadow_lands v_a0_world_shadow_wide v_a0_world_shadow_pace v_a0_world_shadow_age v_a0_world_shadow_slits v_a0_world_shadow_slitA v_a0_world_shadow_slitB (p1 - 3) x11 h12) (cwV 1 hts gX10_told_X4_rule rfl rfl rfl (by decide +kernel) ⟨Nat.le_of_ble_eq_true rfl, Nat.le_of_ble_eq_true rfl⟩) dX10_told_173 hK hP hD hS hA [2] rfl (by decide) rfl rfl (q0 := 0) (ci := 4) rfl rfl rfl hl.1 (lv_room (Nat.le_of_ble_eq_true rfl)) ⟨Nat.zero_le _, Nat.zero_le _⟩ (fun (_ : Unit) => [(A_a0, .inr (10, [.ref A_a0_world, .ref A_a0_images, .ref A_a0_pad, .ref A_a0_story, .ref A_a0_walk, .ref A_a0_census, .ref A_a0_carrier, .ref A_a0_cloud])), (A_a0_world, .inr (9, [.ref A_a0_world_shadow, .ref A_a0_world_stock, .ref A_a0_world_sights, .int v_a0_world_year])), (A_a0_world_shadow, .inr (4, [.int v_a0_world_shadow_lands, .int v_a0_world_shadow_wide, .int v_a0_world_shadow_pace, .int v_a0_world_shadow_age, .int v_a0_world_shadow_slits, .int v_a0_world_shadow_slitA, .int v_a0_world_shadow_slitB])), (A_a0_world_stock, .inr (6, [.ref A_a0_world_stock_cells])), (A_a0_world_stock_cells, .inl (G.2.1, 36, .inl v_a0_world_stock_cells)), (A_a0_world_sights, .inr (5, [.ref A_a0_world_sights_lands, .ref A_a0_world_sights_years, .ref A_a0_world_sights_covers, .int v_a0_world_sights_count])), (A_a0_pad, .inr (3, [.ref A_a0_pad_signs, .int v_a0_pad_count]))]) (fun _ => rfl) (fun _ => rfl) (fun u12 H locs hP hD hS => ?_)
      refine lv_goto (tgt := 181) hx hb dX10_told_176 (by decide) ?_
      exact ret _ () _ _ _ _ h hP hS dX10_told_181 rfl
    have h := rs_neg c5 h
    by_cases c6 : p1 = 6
    · have h := rs_pos c6 h
      refine lv_tableIn (off := 103) (tgt := 153) hx hb dX10_told_50 (by rw [c6]; decide) (by rw [c6]; decide) (by rw [c6]; rfl) (by decide) ?_
      refine lv_iload_n hx hb dX10_told_153 rfl (lv_at hl 1 rfl) ?_
      refine lv_iconst (v := 3) hx hb dX10_told_154 (by decide) ?_
      refine lv_bipush (v := 7) hx hb dX10_told_155 (by decide) ?_
      obtain ⟨x13, h14, h⟩ := rs_b1s h
      have h := h _ rfl
      refine rs_callSi (As := [.int p1, .int 3, .int 7]) (rest := []) ⟨hx, hb, hml, hown, hts⟩ (c_X10_within l G p1 3 7 x13 h14) (va_cwS 3 hts gX10_told_X10_within rfl rfl rfl (by decide +kernel) ⟨Nat.le_of_ble_eq_true rfl, Nat.le_of_ble_eq_true rfl⟩) dX10_told_157 hK hP hD hS hA [] rfl (by decide) rfl rfl hl.1 (lv_room (Nat.le_of_ble_eq_true rfl)) ⟨Nat.zero_le _, Nat.zero_le _⟩ (fun (_ : Unit) => [(A_a0, .inr (10, [.ref A_a0_world, .ref A_a0_images, .ref A_a0_pad, .ref A_a0_story, .ref A_a0_walk, .ref A_a0_census, .ref A_a0_carrier, .ref A_a0_cloud])), (A_a0_world, .inr (9, [.ref A_a0_world_shadow, .ref A_a0_world_stock, .ref A_a0_world_sights, .int v_a0_world_year])), (A_a0_world_shadow, .inr (4, [.int v_a0_world_shadow_lands, .int v_a0_world_shadow_wide, .int v_a0_world_shadow_pace, .int v_a0_world_shadow_age, .int v_a0_world_shadow_slits, .int v_a0_world_shadow_slitA, .int v_a0_world_shadow_slitB])), (A_a0_world_stock, .inr (6, [.ref A_a0_world_stock_cells])), (A_a0_world_stock_cells, .inl (G.2.1, 36, .inl v_a0_world_stock_cells)), (A_a0_world_sights, .inr (5, [.ref A_a0_world_sights_lands, .ref A_a0_world_sights_years, .ref A_a0_world_sights_covers, .int v_a0_world_sights_count])), (A_a0_pad, .inr (3, [.ref A_a0_pad_signs, .int v_a0_pad_count]))]) (fun _ => rfl) (fun _ => rfl) (fun u14 H locs hP hD hS => ?_)
      refine lv_if_eq (tgt := 179) hx hb dX10_told_160 (by decide) (fun hc => ?_) (fun hc => ?_)
      · have h := rs_pos hc h
        refine lv_bipush (v := (-2)) hx hb dX10_told_179 (by decide) ?_
        exact ret _ () _ _ _ _ h hP hS dX10_told_181 rfl
      have h := rs_neg hc h
      refine lv_aload_n hx hb dX10_told_163 rfl (lv_at hl 0 rfl) ?_
      refine va_get (D := G.1) (ci := 10) (v := .ref A_a0_world) (C := RX10) (T := TX10) (N := 8) hx hb hts uX10_told_10 hown hK.1 hP 0 rfl rfl 0 (by decide) (hts (.fieldLink RX10 10 "RingShadow" "world" "LRingShadow$World;") (List.mem_of_getElem? (i := 1) rfl)) (fun _ h9 => h9) rfl dX10_told_164 ?_
      refine va_get (D := G.1) (ci := 9) (v := .ref A_a0_world_shadow) (C := RX9) (T := TX9) (N := 4) hx hb hts uX10_told_9 hown hK.1 hP 1 rfl rfl 0 (by decide) (hts (.fieldLink RX10 66 "RingShadow$World" "shadow" "LRingShadow$Shadow;") (List.mem_of_getElem? (i := 5) rfl)) (fun _ h9 => h9) rfl dX10_told_167 ?_
      refine lv_iload_n hx hb dX10_told_170 rfl (lv_at hl 1 rfl) ?_
      refine lv_iconst (v := 3) hx hb dX10_told_171 (by decide) ?_
      refine lv_isub hx hb dX10_told_172 ?_
      obtain ⟨x15, h16, h⟩ := rs_b1s h
      have h := h _ rfl
      refine rs_callVi (As := [.int (p1 - 3)]) (rest := []) ⟨hx, hb, hml, hown, hts⟩ (c_X4_rule l G A_a0_world_shadow v_a0_world_shadow_lands v_a0_world_shadow_wide v_a0_world_shadow_pace v_a0_world_shadow_age v_a0_world_shadow_slits v_a0_world_shadow_slitA v_a0_world_shadow_slitB (p1 - 3) x15 h16) (cwV 1 hts gX10_told_X4_rule rfl rfl rfl (by decide +kernel) ⟨Nat.le_of_ble_eq_true rfl, Nat.le_of_ble_eq_true rfl⟩) dX10_told_173 hK hP hD hS hA [2] rfl (by decide) rfl rfl (q0 := 0) (ci := 4) rfl rfl rfl hl.1 (lv_room (Nat.le_of_ble_eq_true rfl)) ⟨Nat.zero_le _, Nat.zero_le _⟩ (fun (_ : Unit) => [(A_a0, .inr (10, [.ref A_a0_world, .ref A_a0_images, .ref A_a0_pad, .ref A_a0_story, .ref A_a0_walk, .ref A_a0_census, .ref A_a0_carrier, .ref A_a0_cloud])), (A_a0_world, .inr (9, [.ref A_a0_world_shadow, .ref A_a0_world_stock, .ref A_a0_world_sights, .int v_a0_world_year])), (A_a0_world_shadow, .inr (4, [.int v_a0_world_shadow_lands, .int v_a0_world_shadow_wide, .int v_a0_world_shadow_pace, .int v_a0_world_shadow_age, .int v_a0_world_shadow_slits, .int v_a0_world_shadow_slitA, .int v_a0_world_shadow_slitB])), (A_a0_world_stock, .inr (6, [.ref A_a0_world_stock_cells])), (A_a0_world_stock_cells, .inl (G.2.1, 36, .inl v_a0_world_stock_cells)), (A_a0_world_sights, .inr (5, [.ref A_a0_world_sights_lands, .ref A_a0_world_sights_years, .ref A_a0_world_sights_covers, .int v_a0_world_sights_count])), (A_a0_pad, .inr (3, [.ref A_a0_pad_signs, .int v_a0_pad_count]))]) (fun _ => rfl) (fun _ => rfl) (fun u16 H locs hP hD hS => ?_)
      refine lv_goto (tgt := 181) hx hb dX10_told_176 (by decide) ?_
      exact ret _ () _ _ _ _ h hP hS dX10_told_181 rfl
    have h := rs_neg c6 h
    by_cases c7 : p1 = 7
    · have h := rs_pos c7 h
      refine lv_tableIn (off := 103) (tgt := 153) hx hb dX10_told_50 (by rw [c7]; decide) (by rw [c7]; decide) (by rw [c7]; rfl) (by decide) ?_
      refine lv_iload_n hx hb dX10_told_153 rfl (lv_at hl 1 rfl) ?_
      refine lv_iconst (v := 3) hx hb dX10_told_154 (by decide) ?_
      refine lv_bipush (v := 7) hx hb dX10_told_155 (by decide) ?_
      obtain ⟨x17, h18, h⟩ := rs_b1s h
      have h := h _ rfl
      refine rs_callSi (As := [.int p1, .int 3, .int 7]) (rest := []) ⟨hx, hb, hml, hown, hts⟩ (c_X10_within l G p1 3 7 x17 h18) (va_cwS 3 hts gX10_told_X10_within rfl rfl rfl (by decide +kernel) ⟨Nat.le_of_ble_eq_true rfl, Nat.le_of_ble_eq_true rfl⟩) dX10_told_157 hK hP hD hS hA [] rfl (by decide) rfl rfl hl.1 (lv_room (Nat.le_of_ble_eq_true rfl)) ⟨Nat.zero_le _, Nat.zero_le _⟩ (fun (_ : Unit) => [(A_a0, .inr (10, [.ref A_a0_world, .ref A_a0_images, .ref A_a0_pad, .ref A_a0_story, .ref A_a0_walk, .ref A_a0_census, .ref A_a0_carrier, .ref A_a0_cloud])), (A_a0_world, .inr (9, [.ref A_a0_world_shadow, .ref A_a0_world_stock, .ref A_a0_world_sights, .int v_a0_world_year])), (A_a0_world_shadow, .inr (4, [.int v_a0_world_shadow_lands, .int v_a0_world_shadow_wide, .int v_a0_world_shadow_pace, .int v_a0_world_shadow_age, .int v_a0_world_shadow_slits, .int v_a0_world_shadow_slitA, .int v_a0_world_shadow_slitB])), (A_a0_world_stock, .inr (6, [.ref A_a0_world_stock_cells])), (A_a0_world_stock_cells, .inl (G.2.1, 36, .inl v_a0_world_stock_cells)), (A_a0_world_sights, .inr (5, [.ref A_a0_world_sights_lands, .ref A_a0_world_sights_years, .ref A_a0_world_sights_covers, .int v_a0_world_sights_count])), (A_a0_pad, .inr (3, [.ref A_a0_pad_signs, .int v_a0_pad_count]))]) (fun _ => rfl) (fun _ => rfl) (fun u18 H locs hP hD hS => ?_)
      refine lv_if_eq (tgt := 179) hx hb dX10_told_160 (by decide) (fun hc => ?_) (fun hc => ?_)
      · have h := rs_pos hc h
        refine lv_bipush (v := (-2)) hx hb dX10_told_179 (by decide) ?_
        exact ret _ () _ _ _ _ h hP hS dX10_told_181 rfl
      have h := rs_neg hc h
      refine lv_aload_n hx hb dX10_told_163 rfl (lv_at hl 0 rfl) ?_
      refine va_get (D := G.1) (ci := 10) (v := .ref A_a0_world) (C := RX10) (T := TX10) (N := 8) hx hb hts uX10_told_10 hown hK.1 hP 0 rfl rfl 0 (by decide) (hts (.fieldLink RX10 10 "RingShadow" "world" "LRingShadow$World;") (List.mem_of_getElem? (i := 1) rfl)) (fun _ h9 => h9) rfl dX10_told_164 ?_
      refine va_get (D := G.1) (ci := 9) (v := .ref A_a0_world_shadow) (C := RX9) (T := TX9) (N := 4) hx hb hts uX10_told_9 hown hK.1 hP 1 rfl rfl 0 (by decide) (hts (.fieldLink RX10 66 "RingShadow$World" "shadow" "LRingShadow$Shadow;") (List.mem_of_getElem? (i := 5) rfl)) (fun _ h9 => h9) rfl dX10_told_167 ?_
      refine lv_iload_n hx hb dX10_told_170 rfl (lv_at hl 1 rfl) ?_
      refine lv_iconst (v := 3) hx hb dX10_told_171 (by decide) ?_
      refine lv_isub hx hb dX10_told_172 ?_
      obtain ⟨x19, h20, h⟩ := rs_b1s h
      have h := h _ rfl
      refine rs_callVi (As := [.int (p1 - 3)]) (rest := []) ⟨hx, hb, hml, hown, hts⟩ (c_X4_rule l G A_a0_world_shadow v_a0_world_shadow_lands v_a0_world_shadow_wide v_a0_world_shadow_pace v_a0_world_shadow_age v_a0_world_shadow_slits v_a0_world_shadow_slitA v_a0_world_shadow_slitB (p1 - 3) x19 h20) (cwV 1 hts gX10_told_X4_rule rfl rfl rfl (by decide +kernel) ⟨Nat.le_of_ble_eq_true rfl, Nat.le_of_ble_eq_true rfl⟩) dX10_told_173 hK hP hD hS hA [2] rfl (by decide) rfl rfl (q0 := 0) (ci := 4) rfl rfl rfl hl.1 (lv_room (Nat.le_of_ble_eq_true rfl)) ⟨Nat.zero_le _, Nat.zero_le _⟩ (fun (_ : Unit) => [(A_a0, .inr (10, [.ref A_a0_world, .ref A_a0_images, .ref A_a0_pad, .ref A_a0_story, .ref A_a0_walk, .ref A_a0_census, .ref A_a0_carrier, .ref A_a0_cloud])), (A_a0_world, .inr (9, [.ref A_a0_world_shadow, .ref A_a0_world_stock, .ref A_a0_world_sights, .int v_a0_world_year])), (A_a0_world_shadow, .inr (4, [.int v_a0_world_shadow_lands, .int v_a0_world_shadow_wide, .int v_a0_world_shadow_pace, .int v_a0_world_shadow_age, .int v_a0_world_shadow_slits, .int v_a0_world_shadow_slitA, .int v_a0_world_shadow_slitB])), (A_a0_world_stock, .inr (6, [.ref A_a0_world_stock_cells])), (A_a0_world_stock_cells, .inl (G.2.1, 36, .inl v_a0_world_stock_cells)), (A_a0_world_sights, .inr (5, [.ref A_a0_world_sights_lands, .ref A_a0_world_sights_years, .ref A_a0_world_sights_covers, .int v_a0_world_sights_count])), (A_a0_pad, .inr (3, [.ref A_a0_pad_signs, .int v_a0_pad_count]))]) (fun _ => rfl) (fun _ => rfl) (fun u20 H locs hP hD hS => ?_)
      refine lv_goto (tgt := 181) hx hb dX10_told_176 (by decide) ?_
      exact ret _ () _ _ _ _ h hP hS dX10_told_181 rfl
    have h := rs_neg c7 h
    by_cases c8 : p1 = 8
    · have h := rs_pos c8 h
      refine lv_tableIn (off := 84) (tgt := 134) hx hb dX10_told_50 (by rw [c8]; decide) (by rw [c8]; decide) (by rw [c8]; rfl) (by decide) ?_
      refine lv_aload_n hx hb dX10_told_134 rfl (lv_at hl 0 rfl) ?_
      refine va_get (D := G.1) (ci := 10) (v := .ref A_a0_world) (C := RX10) (T := TX10) (N := 8) hx hb hts uX10_told_10 hown hK.1 hP 0 rfl rfl 0 (by decide) (hts (.fieldLink RX10 10 "RingShadow" "world" "LRingShadow$World;") (List.mem_of_getElem? (i := 1) rfl)) (fun _ h9 => h9) rfl dX10_told_135 ?_
      refine va_get (D := G.1) (ci := 9) (v := .int v_a0_world_year) (C := RX9) (T := TX9) (N := 4) hx hb hts uX10_told_9 hown hK.1 hP 1 rfl rfl 3 (by decide) (hts (.fieldLink RX10 97 "RingShadow$World" "year" "I") (List.mem_of_getElem? (i := 8) rfl)) (fun _ h9 => h9) rfl dX10_told_138 ?_
      exact ret _ () _ _ _ _ h hP hS dX10_told_141 rfl
    have h := rs_neg c8 h
    by_cases c9 : p1 = 9
    · have h := rs_pos c9 h
      refine lv_tableIn (off := 92) (tgt := 142) hx hb dX10_told_50 (by rw [c9]; decide) (by rw [c9]; decide) (by rw [c9]; rfl) (by decide) ?_
      refine lv_aload_n hx hb dX10_told_142 rfl (lv_at hl 0 rfl) ?_
      refine va_get (D := G.1) (ci := 10) (v := .ref A_a0_world) (C := RX10) (T := TX10) (N := 8) hx hb hts uX10_told_10 hown hK.1 hP 0 rfl rfl 0 (by decide) (hts (.fieldLink RX10 10 "RingShadow" "world" "LRingShadow$World;") (List.mem_of_getElem? (i := 1) rfl)) (fun _ h9 => h9) rfl dX10_told_143 ?_
      refine va_get (D := G.1) (ci := 9) (v := .ref A_a0_world_sights) (C := RX9) (T := TX9) (N := 4) hx hb hts uX10_told_9 hown hK.1 hP 1 rfl rfl 2 (by decide) (hts (.fieldLink RX10 88 "RingShadow$World" "sights" "LRingShadow$Sights;") (List.mem_of_getElem? (i := 9) rfl)) (fun _ h9 => h9) rfl dX10_told_146 ?_
      refine va_get (D := G.1) (ci := 5) (v := .int v_a0_world_sights_count) (C := RX5) (T := TX5) (N := 4) hx hb hts uX10_told_5 hown hK.1 hP 5 rfl rfl 3 (by decide) (hts (.fieldLink RX10 92 "RingShadow$Sights" "count" "I") (List.mem_of_getElem? (i := 10) rfl)) (fun _ h9 => h9) rfl dX10_told_149 ?_
      exact ret _ () _ _ _ _ h hP hS dX10_told_152 rfl
    have h := rs_neg c9 h
    refine lv_tableOut (tgt := 153) hx hb dX10_told_50 (by have e0 := lv_neT (k := 0) (a := 0) c0 rfl; have e1 := lv_neT (k := 1) (a := 1) c1 rfl; have e2 := lv_neT (k := 2) (a := 2) c2 rfl; have e3 := lv_neT (k := 3) (a := 3) c3 rfl; have e4 := lv_neT (k := 4) (a := 4) c4 rfl; have e5 := lv_neT (k := 5) (a := 5) c5 rfl; have e6 := lv_neT (k := 6) (a := 6) c6 rfl; have e7 := lv_neT (k := 7) (a := 7) c7 rfl; have e8 := lv_neT (k := 8) (a := 8) c8 rfl; have e9 := lv_neT (k := 9) (a := 9) c9 rfl; omega) (by decide) ?_
    refine lv_iload_n hx hb dX10_told_153 rfl (lv_at hl 1 rfl) ?_
    refine lv_iconst (v := 3) hx hb dX10_told_154 (by decide) ?_
    refine lv_bipush (v := 7) hx hb dX10_told_155 (by decide) ?_
    obtain ⟨x21, h22, h⟩ := rs_b1s h
    have h := h _ rfl
    refine rs_callSi (As := [.int p1, .int 3, .int 7]) (rest := []) ⟨hx, hb, hml, hown, hts⟩ (c_X10_within l G p1 3 7 x21 h22) (va_cwS 3 hts gX10_told_X10_within rfl rfl rfl (by decide +kernel) ⟨Nat.le_of_ble_eq_true rfl, Nat.le_of_ble_eq_true rfl⟩) dX10_told_157 hK hP hD hS hA [] rfl (by decide) rfl rfl hl.1 (lv_room (Nat.le_of_ble_eq_true rfl)) ⟨Nat.zero_le _, Nat.zero_le _⟩ (fun (_ : Unit) => [(A_a0, .inr (10, [.ref A_a0_world, .ref A_a0_images, .ref A_a0_pad, .ref A_a0_story, .ref A_a0_walk, .ref A_a0_census, .ref A_a0_carrier, .ref A_a0_cloud])), (A_a0_world, .inr (9, [.ref A_a0_world_shadow, .ref A_a0_world_stock, .ref A_a0_world_sights, .int v_a0_world_year])), (A_a0_world_shadow, .inr (4, [.int v_a0_world_shadow_lands, .int v_a0_world_shadow_wide, .int v_a0_world_shadow_pace, .int v_a0_world_shadow_age, .int v_a0_world_shadow_slits, .int v_a0_world_shadow_slitA, .int v_a0_world_shadow_slitB])), (A_a0_world_stock, .inr (6, [.ref A_a0_world_stock_cells])), (A_a0_world_stock_cells, .inl (G.2.1, 36, .inl v_a0_world_stock_cells)), (A_a0_world_sights, .inr (5, [.ref A_a0_world_sights_lands, .ref A_a0_world_sights_years, .ref A_a0_world_sights_covers, .int v_a0_world_sights_count])), (A_a0_pad, .inr (3, [.ref A_a0_pad_signs, .int v_a0_pad_count]))]) (fun _ => rfl) (fun _ => rfl) (fun u22 H locs hP hD hS => ?_)
    refine lv_if_eq (tgt := 179) hx hb dX10_told_160 (by decide) (fun hc => ?_) (fun hc => ?_)
    · have h := rs_pos hc h
      refine lv_bipush (v := (-2)) hx hb dX10_told_179 (by decide) ?_
      exact ret _ () _ _ _ _ h hP hS dX10_told_181 rfl
    have h := rs_neg hc h
    refine lv_aload_n hx hb dX10_told_163 rfl (lv_at hl 0 rfl) ?_
    refine va_get (D := G.1) (ci := 10) (v := .ref A_a0_world) (C := RX10) (T := TX10) (N := 8) hx hb hts uX10_told_10 hown hK.1 hP 0 rfl rfl 0 (by decide) (hts (.fieldLink RX10 10 "RingShadow" "world" "LRingShadow$World;") (List.mem_of_getElem? (i := 1) rfl)) (fun _ h9 => h9) rfl dX10_told_164 ?_
    refine va_get (D := G.1) (ci := 9) (v := .ref A_a0_world_shadow) (C := RX9) (T := TX9) (N := 4) hx hb hts uX10_told_9 hown hK.1 hP 1 rfl rfl 0 (by decide) (hts (.fieldLink RX10 66 "RingShadow$World" "shadow" "LRingShadow$Shadow;") (List.mem_of_getElem? (i := 5) rfl)) (fun _ h9 => h9) rfl dX10_told_167 ?_
    refine lv_iload_n hx hb dX10_told_170 rfl (lv_at hl 1 rfl) ?_
    refine lv_iconst (v := 3) hx hb dX10_told_171 (by decide) ?_
    refine lv_isub hx hb dX10_told_172 ?_
    obtain ⟨x23, h24, h⟩ := rs_b1s h
    have h := h _ rfl
    refine rs_callVi (As := [.int (p1 - 3)]) (rest := []) ⟨hx, hb, hml, hown, hts⟩ (c_X4_rule l G A_a0_world_shadow v_a0_world_shadow_lands v_a0_world_shadow_wide v_a0_world_shadow_pace v_a0_world_shadow_age v_a0_world_shadow_slits v_a0_world_shadow_slitA v_a0_world_shadow_slitB (p1 - 3) x23 h24) (cwV 1 hts gX10_told_X4_rule rfl rfl rfl (by decide +kernel) ⟨Nat.le_of_ble_eq_true rfl, Nat.le_of_ble_eq_true rfl⟩) dX10_told_173 hK hP hD hS hA [2] rfl (by decide) rfl rfl (q0 := 0) (ci := 4) rfl rfl rfl hl.1 (lv_room (Nat.le_of_ble_eq_true rfl)) ⟨Nat.zero_le _, Nat.zero_le _⟩ (fun (_ : Unit) => [(A_a0, .inr (10, [.ref A_a0_world, .ref A_a0_images, .ref A_a0_pad, .ref A_a0_story, .ref A_a0_walk, .ref A_a0_census, .ref A_a0_carrier, .ref A_a0_cloud])), (A_a0_world, .inr (9, [.ref A_a0_world_shadow, .ref A_a0_world_stock, .ref A_a0_world_sights, .int v_a0_world_year])), (A_a0_world_shadow, .inr (4, [.int v_a0_world_shadow_lands, .int v_a0_world_shadow_wide, .int v_a0_world_shadow_pace, .int v_a0_world_shadow_age, .int v_a0_world_shadow_slits, .int v_a0_world_shadow_slitA, .int v_a0_world_shadow_slitB])), (A_a0_world_stock, .inr (6, [.ref A_a0_world_stock_cells])), (A_a0_world_stock_cells, .inl (G.2.1, 36, .inl v_a0_world_stock_cells)), (A_a0_world_sights, .inr (5, [.ref A_a0_world_sights_lands, .ref A_a0_world_sights_years, .ref A_a0_world_sights_covers, .int v_a0_world_sights_count])), (A_a0_pad, .inr (3, [.ref A_a0_pad_signs, .int v_a0_pad_count]))]) (fun _ => rfl) (fun _ => rfl) (fun u24 H locs hP hD hS => ?_)
    refine lv_goto (tgt := 181) hx hb dX10_told_176 (by decide) ?_
    exact ret _ () _ _ _ _ h hP hS dX10_told_181 rfl
  have h := rs_neg hc h
  refine lv_iload_n hx hb dX10_told_6 rfl (lv_at hl 1 rfl) ?_
  refine lv_bipush (v := 10) hx hb dX10_told_7 (by decide) ?_
  refine lv_idiv hx hb dX10_told_9 (by decide) ?_
  refine lv_iconst (v := 1) hx hb dX10_told_10 (by decide) ?_
  refine lv_isub hx hb dX10_told_11 ?_
  refine rs_topi h (fun x25 h => ?_)
  refine lv_istore_n (lv' := [(2, .int x25), (0, .ref A_a0), (1, .int p1)]) hx hb dX10_told_12 rfl hl (by decide) rfl (fun ls hl => ?_)
  refine lv_iload_n hx hb dX10_told_13 rfl (lv_at hl 2 rfl) ?_
  refine lv_bipush (v := 10) hx hb dX10_told_14 (by decide) ?_
  refine lv_irem hx hb dX10_told_16 (by decide) ?_
  refine rs_topi h (fun x26 h => ?_)
  refine lv_istore_n (lv' := [(3, .int x26), (2, .int x25), (0, .ref A_a0), (1, .int p1)]) hx hb dX10_told_17 rfl hl (by decide) rfl (fun ls hl => ?_)
  refine lv_aload_n hx hb dX10_told_18 rfl (lv_at hl 2 rfl) ?_
  refine lv_iload_n hx hb dX10_told_19 rfl (lv_at hl 1 rfl) ?_
  obtain ⟨x27, h28, h⟩ := rs_b1s h
  have h := h _ rfl
  refine rs_callVi (As := [.int x25]) (rest := []) ⟨hx, hb, hml, hown, hts⟩ (c_X10_hasLand l G A_a0 A_a0_world A_a0_images A_a0_pad A_a0_story A_a0_walk A_a0_census A_a0_carrier A_a0_cloud A_a0_world_shadow A_a0_world_stock A_a0_world_sights v_a0_world_year v_a0_world_shadow_lands v_a0_world_shadow_wide v_a0_world_shadow_pace v_a0_world_shadow_age v_a0_world_shadow_slits v_a0_world_shadow_slitA v_a0_world_shadow_slitB x25 x27 h28) (cwV 1 hts gX10_told_X10_hasLand rfl rfl rfl (by decide +kernel) ⟨Nat.le_of_ble_eq_true rfl, Nat.le_of_ble_eq_true rfl⟩) dX10_told_20 hK hP hD hS hA [0, 1, 2] rfl (by decide) rfl rfl (q0 := 0) (ci := 10) rfl rfl rfl hl.1 (lv_room (Nat.le_of_ble_eq_true rfl)) ⟨Nat.zero_le _, Nat.zero_le _⟩ (fun (_ : Unit) => [(A_a0, .inr (10, [.ref A_a0_world, .ref A_a0_images, .ref A_a0_pad, .ref A_a0_story, .ref A_a0_walk, .ref A_a0_census, .ref A_a0_carrier, .ref A_a0_cloud])), (A_a0_world, .inr (9, [.ref A_a0_world_shadow, .ref A_a0_world_stock, .ref A_a0_world_sights, .int v_a0_world_year])), (A_a0_world_shadow, .inr (4, [.int v_a0_world_shadow_lands, .int v_a0_world_shadow_wide, .int v_a0_world_shadow_pace, .int v_a0_world_shadow_age, .int v_a0_world_shadow_slits, .int v_a0_world_shadow_slitA, .int v_a0_world_shadow_slitB])), (A_a0_world_stock, .inr (6, [.ref A_a0_world_stock_cells])), (A_a0_world_stock_cells, .inl (G.2.1, 36, .inl v_a0_world_stock_cells)), (A_a0_world_sights, .inr (5, [.ref A_a0_world_sights_lands, .ref A_a0_world_sights_years, .ref A_a0_world_sights_covers, .int v_a0_world_sights_count])), (A_a0_pad, .inr (3, [.ref A_a0_pad_signs, .int v_a0_pad_count]))]) (fun _ => rfl) (fun _ => rfl) (fun u28 H locs hP hD hS => ?_)
  refine lv_if_eq (tgt := 46) hx hb dX10_told_23 (by decide) (fun hc => ?_) (fun hc => ?_)
  · have h := rs_pos hc h
    refine lv_bipush (v := (-2)) hx hb dX10_told_46 (by decide) ?_
    exact ret _ () _ _ _ _ h hP hS dX10_told_48 rfl
  have h := rs_neg hc h
  refine lv_iload_n hx hb dX10_told_26 rfl (lv_at hl 0 rfl) ?_
  refine lv_iconst (v := 4) hx hb dX10_told_27 (by decide) ?_
  refine lv_icmp_ge (tgt := 46) hx hb dX10_told_28 (by decide) (fun hc => ?_) (fun hc => ?_)
  · have h := rs_pos hc h
    refine lv_bipush (v := (-2)) hx hb dX10_told_46 (by decide) ?_
    exact ret _ () _ _ _ _ h hP hS dX10_told_48 rfl
  have h := rs_neg hc h
  refine lv_aload_n hx hb dX10_told_31 rfl (lv_at hl 2 rfl) ?_
  refine va_get (D := G.1) (ci := 10) (v := .ref A_a0_world) (C := RX10) (T := TX10) (N := 8) hx hb hts uX10_told_10 hown hK.1 hP 0 rfl rfl 0 (by decide) (hts (.fieldLink RX10 10 "RingShadow" "world" "LRingShadow$World;") (List.mem_of_getElem? (i := 1) rfl)) (fun _ h9 => h9) rfl dX10_told_32 ?_
  refine va_get (D := G.1) (ci := 9) (v := .ref A_a0_world_stock) (C := RX9) (T := TX9) (N := 4) hx hb hts uX10_told_9 hown hK.1 hP 1 rfl rfl 1 (by decide) (hts (.fieldLink RX10 79 "RingShadow$World" "stock" "LRingShadow$Stock;") (List.mem_of_getElem? (i := 2) rfl)) (fun _ h9 => h9) rfl dX10_told_35 ?_
  refine lv_iload_n hx hb dX10_told_38 rfl (lv_at hl 1 rfl) ?_
  refine lv_iload_n hx hb dX10_told_39 rfl (lv_at hl 0 rfl) ?_
  obtain ⟨x29, h30, h⟩ := rs_b1s h
  have h := h _ rfl
  refine rs_callVi (As := [.int x25, .int x26]) (rest := []) ⟨hx, hb, hml, hown, hts⟩ (c_X6_of l G A_a0_world_stock A_a0_world_stock_cells v_a0_world_stock_cells x25 x26 x29 h30) (cwV 2 hts gX10_told_X6_of rfl rfl rfl (by decide +kernel) ⟨Nat.le_of_ble_eq_true rfl, Nat.le_of_ble_eq_true rfl⟩) dX10_told_40 hK hP hD hS hA [3, 4] rfl (by decide) rfl rfl (q0 := 0) (ci := 6) rfl rfl rfl hl.1 (lv_room (Nat.le_of_ble_eq_true rfl)) ⟨Nat.zero_le _, Nat.zero_le _⟩ (fun (_ : Unit) => [(A_a0, .inr (10, [.ref A_a0_world, .ref A_a0_images, .ref A_a0_pad, .ref A_a0_story, .ref A_a0_walk, .ref A_a0_census, .ref A_a0_carrier, .ref A_a0_cloud])), (A_a0_world, .inr (9, [.ref A_a0_world_shadow, .ref A_a0_world_stock, .ref A_a0_world_sights, .int v_a0_world_year])), (A_a0_world_shadow, .inr (4, [.int v_a0_world_shadow_lands, .int v_a0_world_shadow_wide, .int v_a0_world_shadow_pace, .int v_a0_world_shadow_age, .int v_a0_world_shadow_slits, .int v_a0_world_shadow_slitA, .int v_a0_world_shadow_slitB])), (A_a0_world_stock, .inr (6, [.ref A_a0_world_stock_cells])), (A_a0_world_stock_cells, .inl (G.2.1, 36, .inl v_a0_world_stock_cells)), (A_a0_world_sights, .inr (5, [.ref A_a0_world_sights_lands, .ref A_a0_world_sights_years, .ref A_a0_world_sights_covers, .int v_a0_world_sights_count])), (A_a0_pad, .inr (3, [.ref A_a0_pad_signs, .int v_a0_pad_count]))]) (fun _ => rfl) (fun _ => rfl) (fun u30 H locs hP hD hS => ?_)
  refine lv_goto (tgt := 48) hx hb dX10_told_43 (by decide) ?_
  exact ret _ () _ _ _ _ h hP hS dX10_told_48 rfl
abbrev rmX11_in : Room := { frames := 0, cells := 0, slots := 0, locals := 0 }
set_option maxRecDepth 100000 in
set_option maxHeartbeats 4000000 in
theorem c_X11_in (l : Launch) (G : rs_G) (p0 : Int64) (p1 : Int64) (p2 : Int64) (r0 : Int32) (h : f_X11_in p0 p1 p2 = some r0) : rs_Ci l yX11_in wsX11_in rmX11_in G [.long p0, .long p1, .long p2] [] (fun (_ : Unit) => []) r0 := by
  refine rs_enter_i (cc := cX11_in) (maxL := 6) (ty := .boolean) (by decide) rfl (Nat.le_of_ble_eq_true rfl) (fun p e s m args below meth c A Q ls E ret hP hD hS hA hl => ?_)
  obtain ⟨hx, hb, hml, hown, hts, hK⟩ := E
  have hown : s.vm.findClass RX11 = some m.cls := hown
  have hl : lv_has ls 6 [(0, .long p0), (2, .long p1), (4, .long p2)] := hl
  have ret : ∀ (v0 : Int32) (u : Unit) (H : Heap) (locs : List Loc) (pc : Nat) (ls : Array Slot), some v0 = some r0 → va_P G.1 vwCl [] H → va_S A s.heap H locs → decode cX11_in pc = .ok (.ireturn, 1) → narrow .boolean (.int v0) = .int v0 → W p l e rmX11_in s m args below meth c H locs 0 0 Q (F0 m pc ls [.int v0]) := by
    intro v0 u H locs pc ls hz
    cases hz
    exact ret u H locs pc ls
  unfold f_X11_in at h
  refine lv_lload_n hx hb dX11_in_0 rfl (lv_at hl 0 rfl) ?_
  refine lv_lload_n hx hb dX11_in_1 rfl (lv_at hl 1 rfl) ?_
  refine W.lcmp hx hb dX11_in_2 ?_
  refine lv_if_lt (tgt := 17) hx hb dX11_in_3 (by decide) (fun hc => ?_) (fun hc => ?_)
  · have h := rs_pos hc h
    refine lv_iconst (v := 0) hx hb dX11_in_17 (by decide) ?_
    exact ret _ () _ _ _ _ h hP hS dX11_in_18 rfl
  have h := rs_neg hc h
  refine lv_lload_n hx hb dX11_in_6 rfl (lv_at hl 0 rfl) ?_
  refine lv_lload hx hb dX11_in_7 (lv_at hl 2 rfl) ?_
  refine W.lcmp hx hb dX11_in_9 ?_
  refine lv_if_gt (tgt := 17) hx hb dX11_in_10 (by decide) (fun hc => ?_) (fun hc => ?_)
  · have h := rs_pos hc h
    refine lv_iconst (v := 0) hx hb dX11_in_17 (by decide) ?_
    exact ret _ () _ _ _ _ h hP hS dX11_in_18 rfl
  have h := rs_neg hc h
  refine lv_iconst (v := 1) hx hb dX11_in_13 (by decide) ?_
  refine lv_goto (tgt := 18) hx hb dX11_in_14 (by decide) ?_
  exact ret _ () _ _ _ _ h hP hS dX11_in_18 rfl
abbrev rmX11_at : Room := { frames := 0, cells := 0, slots := 0, locals := 0 }
set_option maxRecDepth 100000 in
set_option maxHeartbeats 4000000 in
theorem c_X11_at (l : Launch) (G : rs_G) (p0 : Int32) (p1 : Int32) (r0 : Int32) (h : f_X11_at p0 p1 = some r0) : rs_Ci l yX11_at wsX11_at rmX11_at G [.int p0, .int p1] [] (fun (_ : Unit) => []) r0 := by
  refine rs_enter_i (cc := cX11_at) (maxL := 2) (ty := .int) (by decide) rfl (Nat.le_of_ble_eq_true rfl) (fun p e s m args below meth c A Q ls E ret hP hD hS hA hl => ?_)
  obtain ⟨hx, hb, hml, hown, hts, hK⟩ := E
  have hown : s.vm.findClass RX11 = some m.cls := hown
  have hl : lv_has ls 2 [(0, .int p0), (1, .int p1)] := hl
  have ret : ∀ (v0 : Int32) (u : Unit) (H : Heap) (locs : List Loc) (pc : Nat) (ls : Array Slot), some v0 = some r0 → va_P G.1 vwCl [] H → va_S A s.heap H locs → decode cX11_at pc = .ok (.ireturn, 1) → narrow .int (.int v0) = .int v0 → W p l e rmX11_at s m args below meth c H locs 0 0 Q (F0 m pc ls [.int v0]) := by
    intro v0 u H locs pc ls hz
    cases hz
    exact ret u H locs pc ls
  unfold f_X11_at at h
  refine lv_bipush (v := 9) hx hb dX11_at_0 (by decide) ?_
  refine lv_iload_n hx hb dX11_at_2 rfl (lv_at hl 0 rfl) ?_
  refine lv_imul hx hb dX11_at_3 ?_
  refine lv_iload_n hx hb dX11_at_4 rfl (lv_at hl 1 rfl) ?_
  refine lv_iadd hx hb dX11_at_5 ?_
  exact ret _ () _ _ _ _ h hP hS dX11_at_6 rfl
