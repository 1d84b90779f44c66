theorem rs_in2 {p1 : Int32} (h : vp_in p1 2) : p1 < 2 := by
  have h0 : ¬ p1 < 0 := fun z => h (Or.inl z)
  have h1 : ¬ 2 ≤ p1.toNatClampNeg := fun z => h (Or.inr z)
  obtain ⟨j, hj, rfl⟩ := nI_of h0
  rw [nI_clamp hj] at h1
  have h2 : (2 : Int32).toInt = 2 := rfl
  rw [pn_lt, h2, nI_toInt hj]
  omega
theorem rs_in2n {p1 : Int32} (h : ¬ vp_in p1 2) : p1 < 0 ∨ 2 ≤ p1 := by
  by_cases h0 : p1 < 0
  · exact Or.inl h0
  · right
    have h1 : 2 ≤ p1.toNatClampNeg := by
      rcases Classical.em (2 ≤ p1.toNatClampNeg) with z | z
      · exact z
      · exact absurd (fun q => q.elim h0 z) h
    obtain ⟨j, hj, rfl⟩ := nI_of h0
    rw [nI_clamp hj] at h1
    have h2 : (2 : Int32).toInt = 2 := rfl
    rw [pn_le, h2, nI_toInt hj]
    omega
set_option maxHeartbeats 1000000 in
theorem c_X10_restore (l : Launch) (G : rs_G) (A_a0 A_im r2 r3 r4 r5 r6 r7 : Nat) (fi : Nat → Option Nat) (p1 : Int32) (w : Nat → Nat) (wy wd0 wd1 wd2 wd3 wd4 wd5 wd6 wc : Int32) (wf wl wj wv : Nat → Int32) (k : Nat → Nat) (ky kd0 kd1 kd2 kd3 kd4 kd5 kd6 kc : Int32) (kf kl kj kv : Nat → Int32) (N : Nat) (o0 : Int32) (o1 : Int32) (o2 : Int32) (o3 : Int32) (o4 : Int32) (o5 : Int32) (o6 : Int32) (o7 : Int32) (o8 : Nat → Int32) (o9 : Int32) (o10 o11 o12 : Nat → Int32) (hp : vp_in p1 2) (hf : fi p1.toNatClampNeg = some (k 0)) (h : f_X9_takeFrom N ky kd0 kd1 kd2 kd3 kd4 kd5 kd6 kf wf kc kl wl kj wj kv wv = some (o0, o1, o2, o3, o4, o5, o6, o7, o8, o9, o10, o11, o12)) : rs_Ci l yX10_restore wsX10_restore rmX10_restore G [.ref A_a0, .int p1] [(A_a0, .inr (10, [.ref (w 0), .ref A_im, .ref r2, .ref r3, .ref r4, .ref r5, .ref r6, .ref r7])), (A_im, .inl (G.2.2.2.2.2, 2, .inr (.inr (.inr (.inr fi))))), (w 0, .inr (9, [.ref (w 1), .ref (w 2), .ref (w 4), .int wy])), (w 1, .inr (4, [.int wd0, .int wd1, .int wd2, .int wd3, .int wd4, .int wd5, .int wd6])), (w 2, .inr (6, [.ref (w 3)])), (w 3, .inl (G.2.1, 36, .inl wf)), (w 4, .inr (5, [.ref (w 5), .ref (w 6), .ref (w 7), .int wc])), (w 5, .inl (G.2.1, 8, .inl wl)), (w 6, .inl (G.2.1, 8, .inl wj)), (w 7, .inl (G.2.1, 8, .inl wv)), (k 0, .inr (9, [.ref (k 1), .ref (k 2), .ref (k 4), .int ky])), (k 1, .inr (4, [.int kd0, .int kd1, .int kd2, .int kd3, .int kd4, .int kd5, .int kd6])), (k 2, .inr (6, [.ref (k 3)])), (k 3, .inl (G.2.1, 36, .inl kf)), (k 4, .inr (5, [.ref (k 5), .ref (k 6), .ref (k 7), .int kc])), (k 5, .inl (G.2.1, 8, .inl kl)), (k 6, .inl (G.2.1, 8, .inl kj)), (k 7, .inl (G.2.1, 8, .inl kv))] (fun (_ : Unit) => [(A_a0, .inr (10, [.ref (w 0), .ref A_im, .ref r2, .ref r3, .ref r4, .ref r5, .ref r6, .ref r7])), (A_im, .inl (G.2.2.2.2.2, 2, .inr (.inr (.inr (.inr fi))))), (w 0, .inr (9, [.ref (w 1), .ref (w 2), .ref (w 4), .int o0])), (w 1, .inr (4, [.int o1, .int o2, .int o3, .int o4, .int o5, .int o6, .int o7])), (w 2, .inr (6, [.ref (w 3)])), (w 3, .inl (G.2.1, 36, .inl o8)), (w 4, .inr (5, [.ref (w 5), .ref (w 6), .ref (w 7), .int o9])), (w 5, .inl (G.2.1, 8, .inl o10)), (w 6, .inl (G.2.1, 8, .inl o11)), (w 7, .inl (G.2.1, 8, .inl o12)), (k 0, .inr (9, [.ref (k 1), .ref (k 2), .ref (k 4), .int ky])), (k 1, .inr (4, [.int kd0, .int kd1, .int kd2, .int kd3, .int kd4, .int kd5, .int kd6])), (k 2, .inr (6, [.ref (k 3)])), (k 3, .inl (G.2.1, 36, .inl kf)), (k 4, .inr (5, [.ref (k 5), .ref (k 6), .ref (k 7), .int kc])), (k 5, .inl (G.2.1, 8, .inl kl)), (k 6, .inl (G.2.1, 8, .inl kj)), (k 7, .inl (G.2.1, 8, .inl kv))]) 1 := by
  refine rs_enter_i (cc := cX10_restore) (maxL := 3) (ty := .int) (by decide) rfl (Nat.le_of_ble_eq_true rfl) (fun p e s m args below meth c A Q ls E ret hP hD hS hA hl => ?_)
  obtain ⟨hx, hb, hml, hown, hts, hK⟩ := E
  have hown : s.vm.findClass RX10 = some m.cls := hown
  have hl : lv_has ls 3 [(0, .ref A_a0), (1, .int p1)] := hl
  refine lv_iload_n hx hb dX10_restore_0 rfl (lv_at hl 1 rfl) ?_
  refine lv_if_lt (tgt := 13) hx hb dX10_restore_1 (by decide) (fun hc => absurd (Or.inl hc) hp) (fun _ => ?_)
  refine lv_iload_n hx hb dX10_restore_4 rfl (lv_at hl 1 rfl) ?_
  refine lv_aload_n hx hb dX10_restore_5 rfl (lv_at hl 0 rfl) ?_
  refine va_get (D := G.1) (ci := 10) (v := .ref A_im) (C := RX10) (T := TX10) (N := 8) hx hb hts uX10_restore_10 hown hK.1 hP 0 rfl rfl 1 (by decide) (hts (.fieldLink RX10 16 "RingShadow" "images" "[LRingShadow$World;") (List.mem_of_getElem? (i := 1) rfl)) (fun _ h9 => h9) rfl dX10_restore_6 ?_
  refine va_alen (v := 2) hx hb hK.1 hP 1 4 rfl rfl rfl dX10_restore_9 ?_
  refine lv_icmp_lt (tgt := 16) hx hb dX10_restore_10 (by decide) (fun _ => ?_) (fun hc => absurd (rs_in2 hp) hc)
  refine lv_aload_n hx hb dX10_restore_16 rfl (lv_at hl 0 rfl) ?_
  refine va_get (D := G.1) (ci := 10) (v := .ref A_im) (C := RX10) (T := TX10) (N := 8) hx hb hts uX10_restore_10 hown hK.1 hP 0 rfl rfl 1 (by decide) (hts (.fieldLink RX10 16 "RingShadow" "images" "[LRingShadow$World;") (List.mem_of_getElem? (i := 1) rfl)) (fun _ h9 => h9) rfl dX10_restore_17 ?_
  refine lv_iload_n hx hb dX10_restore_20 rfl (lv_at hl 1 rfl) ?_
  refine va_aldq hx hb hK.1 hP 1 4 rfl rfl hp dX10_restore_21 ?_
  rw [hf]
  refine lv_astore_n (lv' := [(2, .ref (k 0)), (0, .ref A_a0), (1, .int p1)]) hx hb dX10_restore_22 rfl hl (by decide) rfl (fun ls hl => ?_)
  refine lv_aload_n hx hb dX10_restore_23 rfl (lv_at hl 0 rfl) ?_
  refine lv_ifnonnull (tgt := 30) hx hb dX10_restore_24 (by decide) ?_
  refine lv_aload_n hx hb dX10_restore_30 rfl (lv_at hl 1 rfl) ?_
  refine va_get (D := G.1) (ci := 10) (v := .ref (w 0)) (C := RX10) (T := TX10) (N := 8) hx hb hts uX10_restore_10 hown hK.1 hP 0 rfl rfl 0 (by decide) (hts (.fieldLink RX10 10 "RingShadow" "world" "LRingShadow$World;") (List.mem_of_getElem? (i := 2) rfl)) (fun _ h9 => h9) rfl dX10_restore_31 ?_
  refine lv_aload_n hx hb dX10_restore_34 rfl (lv_at hl 0 rfl) ?_
  refine rs_callVv (As := [.ref (k 0)]) (rest := []) ⟨hx, hb, hml, hown, hts⟩ (c_X9_takeFrom l G (w 0) (k 0) (w 1) (w 2) (w 4) (k 1) (k 2) (k 4) (w 3) (k 3) (w 5) (w 6) (w 7) (k 5) (k 6) (k 7) wy ky wd0 wd1 wd2 wd3 wd4 wd5 wd6 kd0 kd1 kd2 kd3 kd4 kd5 kd6 kf wf wc kc kl wl kj wj kv wv N o0 o1 o2 o3 o4 o5 o6 o7 o8 o9 o10 o11 o12 h) (cwV 1 hts gX10_restore_X9_takeFrom rfl rfl rfl (by decide +kernel) ⟨Nat.le_of_ble_eq_true rfl, Nat.le_of_ble_eq_true rfl⟩) dX10_restore_35 hK hP hD hS hA [2, 10, 3, 11, 4, 12, 13, 5, 6, 14, 15, 7, 16, 8, 17, 9] rfl (by decide) rfl rfl (q0 := 0) (ci := 9) rfl rfl rfl hl.1 (lv_room (Nat.le_of_ble_eq_true rfl)) ⟨Nat.zero_le _, Nat.zero_le _⟩ (fun (_ : Unit) => [(A_a0, .inr (10, [.ref (w 0), .ref A_im, .ref r2, .ref r3, .ref r4, .ref r5, .ref r6, .ref r7])), (A_im, .inl (G.2.2.2.2.2, 2, .inr (.inr (.inr (.inr fi))))), (w 0, .inr (9, [.ref (w 1), .ref (w 2), .ref (w 4), .int o0])), (w 1, .inr (4, [.int o1, .int o2, .int o3, .int o4, .int o5, .int o6, .int o7])), (w 2, .inr (6, [.ref (w 3)])), (w 3, .inl (G.2.1, 36, .inl o8)), (w 4, .inr (5, [.ref (w 5), .ref (w 6), .ref (w 7), .int o9])), (w 5, .inl (G.2.1, 8, .inl o10)), (w 6, .inl (G.2.1, 8, .inl o11)), (w 7, .inl (G.2.1, 8, .inl o12)), (k 0, .inr (9, [.ref (k 1), .ref (k 2), .ref (k 4), .int ky])), (k 1, .inr (4, [.int kd0, .int kd1, .int kd2, .int kd3, .int kd4, .int kd5, .int kd6])), (k 2, .inr (6, [.ref (k 3)])), (k 3, .inl (G.2.1, 36, .inl kf)), (k 4, .inr (5, [.ref (k 5), .ref (k 6), .ref (k 7), .int kc])), (k 5, .inl (G.2.1, 8, .inl kl)), (k 6, .inl (G.2.1, 8, .inl kj)), (k 7, .inl (G.2.1, 8, .inl kv))]) (fun _ => rfl) (fun _ => rfl) (fun u10 H locs hP hD hS => ?_)
  refine lv_iconst (v := 1) hx hb dX10_restore_38 (by decide) ?_
  exact ret () _ _ _ _ hP hS dX10_restore_39 rfl
abbrev rmX10_image : Room := { frames := 4, cells := 0, slots := 0, locals := 110 }
abbrev rmX10_imageN : Room := { frames := 4, cells := 8, slots := 76, locals := 110 }
theorem uX10_image_10 : ∀ w ∈ wsX100, w ∈ wsX10_image := fun _ h => List.mem_cons_of_mem _ (List.mem_append_left _ (List.mem_append_left _ (List.mem_append_left _ (List.mem_append_left _ (List.mem_append_right _ h)))))
theorem uX10_image_9 : ∀ w ∈ wsX90, w ∈ wsX10_image := fun _ h => List.mem_cons_of_mem _ (List.mem_append_left _ (List.mem_append_left _ (List.mem_append_left _ (List.mem_append_right _ h))))
set_option maxHeartbeats 1000000 in
theorem c_X10_image_no (l : Launch) (G : rs_G) (A_a0 A_w A_im r2 r3 r4 r5 r6 r7 : Nat) (f : Nat → Option Nat) (p1 : Int32) (h : p1 < 0 ∨ 2 ≤ p1) : rs_Ci l yX10_image wsX10_image rmX10_image G [.ref A_a0, .int p1] [(A_a0, .inr (10, [.ref A_w, .ref A_im, .ref r2, .ref r3, .ref r4, .ref r5, .ref r6, .ref r7])), (A_im, .inl (G.2.2.2.2.2, 2, .inr (.inr (.inr (.inr f)))))] (fun (_ : Unit) => [(A_a0, .inr (10, [.ref A_w, .ref A_im, .ref r2, .ref r3, .ref r4, .ref r5, .ref r6, .ref r7])), (A_im, .inl (G.2.2.2.2.2, 2, .inr (.inr (.inr (.inr f)))))]) (-2) := by
  refine rs_enter_i (cc := cX10_image) (maxL := 3) (ty := .int) (by decide) rfl (Nat.le_of_ble_eq_true rfl) (fun p e s m args below meth c A Q ls E ret hP hD hS hA hl => ?_)
  obtain ⟨hx, hb, hml, hown, hts, hK⟩ := E
  have hown : s.vm.findClass RX10 = some m.cls := hown
  have hl : lv_has ls 3 [(0, .ref A_a0), (1, .int p1)] := hl
  refine lv_iload_n hx hb dX10_image_0 rfl (lv_at hl 1 rfl) ?_
  refine lv_if_lt (tgt := 13) hx hb dX10_image_1 (by decide) (fun hc => ?_) (fun hc => ?_)
  · refine lv_bipush (v := (-2)) hx hb dX10_image_13 (by decide) ?_
    exact ret () _ _ _ _ hP hS dX10_image_15 rfl
  refine lv_iload_n hx hb dX10_image_4 rfl (lv_at hl 1 rfl) ?_
  refine lv_aload_n hx hb dX10_image_5 rfl (lv_at hl 0 rfl) ?_
  refine va_get (D := G.1) (ci := 10) (v := .ref A_im) (C := RX10) (T := TX10) (N := 8) hx hb hts uX10_image_10 hown hK.1 hP 0 rfl rfl 1 (by decide) (hts (.fieldLink RX10 16 "RingShadow" "images" "[LRingShadow$World;") (List.mem_of_getElem? (i := 1) rfl)) (fun _ h9 => h9) rfl dX10_image_6 ?_
  refine va_alen (v := 2) hx hb hK.1 hP 1 4 rfl rfl rfl dX10_image_9 ?_
  refine lv_icmp_lt (tgt := 16) hx hb dX10_image_10 (by decide) (fun hc2 => ?_) (fun hc2 => ?_)
  · rcases h with h | h
    · exact absurd h hc
    · rw [pn_lt] at hc2
      have := (pn_le _ _).mp h
      omega
  · refine lv_bipush (v := (-2)) hx hb dX10_image_13 (by decide) ?_
    exact ret () _ _ _ _ hP hS dX10_image_15 rfl
set_option maxHeartbeats 1000000 in
theorem c_X10_image (l : Launch) (G : rs_G) (A_a0 A_im r2 r3 r4 r5 r6 r7 : Nat) (fi : Nat → Option Nat) (p1 : Int32) (w : Nat → Nat) (wy wd0 wd1 wd2 wd3 wd4 wd5 wd6 wc : Int32) (wf wl wj wv : Nat → Int32) (k : Nat → Nat) (ky kd0 kd1 kd2 kd3 kd4 kd5 kd6 kc : Int32) (kf kl kj kv : Nat → Int32) (N : Nat) (o0 : Int32) (o1 : Int32) (o2 : Int32) (o3 : Int32) (o4 : Int32) (o5 : Int32) (o6 : Int32) (o7 : Int32) (o8 : Nat → Int32) (o9 : Int32) (o10 o11 o12 : Nat → Int32) (hp : vp_in p1 2) (hf : fi p1.toNatClampNeg = some (k 0)) (h : f_X9_takeFrom N wy wd0 wd1 wd2 wd3 wd4 wd5 wd6 wf kf wc wl kl wj kj wv kv = some (o0, o1, o2, o3, o4, o5, o6, o7, o8, o9, o10, o11, o12)) : rs_Ci l yX10_image wsX10_image rmX10_image G [.ref A_a0, .int p1] [(A_a0, .inr (10, [.ref (w 0), .ref A_im, .ref r2, .ref r3, .ref r4, .ref r5, .ref r6, .ref r7])), (A_im, .inl (G.2.2.2.2.2, 2, .inr (.inr (.inr (.inr fi))))), (w 0, .inr (9, [.ref (w 1), .ref (w 2), .ref (w 4), .int wy])), (w 1, .inr (4, [.int wd0, .int wd1, .int wd2, .int wd3, .int wd4, .int wd5, .int wd6])), (w 2, .inr (6, [.ref (w 3)])), (w 3, .inl (G.2.1, 36, .inl wf)), (w 4, .inr (5, [.ref (w 5), .ref (w 6), .ref (w 7), .int wc])), (w 5, .inl (G.2.1, 8, .inl wl)), (w 6, .inl (G.2.1, 8, .inl wj)), (w 7, .inl (G.2.1, 8, .inl wv)), (k 0, .inr (9, [.ref (k 1), .ref (k 2), .ref (k 4), .int ky])), (k 1, .inr (4, [.int kd0, .int kd1, .int kd2, .int kd3, .int kd4, .int kd5, .int kd6])), (k 2, .inr (6, [.ref (k 3)])), (k 3, .inl (G.2.1, 36, .inl kf)), (k 4, .inr (5, [.ref (k 5), .ref (k 6), .ref (k 7), .int kc])), (k 5, .inl (G.2.1, 8, .inl kl)), (k 6, .inl (G.2.1, 8, .inl kj)), (k 7, .inl (G.2.1, 8, .inl kv))] (fun (_ : Unit) => [(A_a0, .inr (10, [.ref (w 0), .ref A_im, .ref r2, .ref r3, .ref r4, .ref r5, .ref r6, .ref r7])), (A_im, .inl (G.2.2.2.2.2, 2, .inr (.inr (.inr (.inr fi))))), (w 0, .inr (9, [.ref (w 1), .ref (w 2), .ref (w 4), .int wy])), (w 1, .inr (4, [.int wd0, .int wd1, .int wd2, .int wd3, .int wd4, .int wd5, .int wd6])), (w 2, .inr (6, [.ref (w 3)])), (w 3, .inl (G.2.1, 36, .inl wf)), (w 4, .inr (5, [.ref (w 5), .ref (w 6), .ref (w 7), .int wc])), (w 5, .inl (G.2.1, 8, .inl wl)), (w 6, .inl (G.2.1, 8, .inl wj)), (w 7, .inl (G.2.1, 8, .inl wv)), (k 0, .inr (9, [.ref (k 1), .ref (k 2), .ref (k 4), .int o0])), (k 1, .inr (4, [.int o1, .int o2, .int o3, .int o4, .int o5, .int o6, .int o7])), (k 2, .inr (6, [.ref (k 3)])), (k 3, .inl (G.2.1, 36, .inl o8)), (k 4, .inr (5, [.ref (k 5), .ref (k 6), .ref (k 7), .int o9])), (k 5, .inl (G.2.1, 8, .inl o10)), (k 6, .inl (G.2.1, 8, .inl o11)), (k 7, .inl (G.2.1, 8, .inl o12))]) 1 := by
  refine rs_enter_i (cc := cX10_image) (maxL := 3) (ty := .int) (by decide) rfl (Nat.le_of_ble_eq_true rfl) (fun p e s m args below meth c A Q ls E ret hP hD hS hA hl => ?_)
  obtain ⟨hx, hb, hml, hown, hts, hK⟩ := E
  have hown : s.vm.findClass RX10 = some m.cls := hown
  have hl : lv_has ls 3 [(0, .ref A_a0), (1, .int p1)] := hl
  refine lv_iload_n hx hb dX10_image_0 rfl (lv_at hl 1 rfl) ?_
  refine lv_if_lt (tgt := 13) hx hb dX10_image_1 (by decide) (fun hc => absurd (Or.inl hc) hp) (fun _ => ?_)
  refine lv_iload_n hx hb dX10_image_4 rfl (lv_at hl 1 rfl) ?_
  refine lv_aload_n hx hb dX10_image_5 rfl (lv_at hl 0 rfl) ?_
  refine va_get (D := G.1) (ci := 10) (v := .ref A_im) (C := RX10) (T := TX10) (N := 8) hx hb hts uX10_image_10 hown hK.1 hP 0 rfl rfl 1 (by decide) (hts (.fieldLink RX10 16 "RingShadow" "images" "[LRingShadow$World;") (List.mem_of_getElem? (i := 1) rfl)) (fun _ h9 => h9) rfl dX10_image_6 ?_
  refine va_alen (v := 2) hx hb hK.1 hP 1 4 rfl rfl rfl dX10_image_9 ?_
  refine lv_icmp_lt (tgt := 16) hx hb dX10_image_10 (by decide) (fun _ => ?_) (fun hc => absurd (rs_in2 hp) hc)
  refine lv_aload_n hx hb dX10_image_16 rfl (lv_at hl 0 rfl) ?_
  refine va_get (D := G.1) (ci := 10) (v := .ref A_im) (C := RX10) (T := TX10) (N := 8) hx hb hts uX10_image_10 hown hK.1 hP 0 rfl rfl 1 (by decide) (hts (.fieldLink RX10 16 "RingShadow" "images" "[LRingShadow$World;") (List.mem_of_getElem? (i := 1) rfl)) (fun _ h9 => h9) rfl dX10_image_17 ?_
  refine lv_iload_n hx hb dX10_image_20 rfl (lv_at hl 1 rfl) ?_
  refine va_aldq hx hb hK.1 hP 1 4 rfl rfl hp dX10_image_21 ?_
  rw [hf]
  refine lv_astore_n (lv' := [(2, .ref (k 0)), (0, .ref A_a0), (1, .int p1)]) hx hb dX10_image_22 rfl hl (by decide) rfl (fun ls hl => ?_)
  refine lv_aload_n hx hb dX10_image_23 rfl (lv_at hl 0 rfl) ?_
  refine lv_ifnonnull (tgt := 42) hx hb dX10_image_24 (by decide) ?_
  refine lv_aload_n hx hb dX10_image_42 rfl (lv_at hl 0 rfl) ?_
  refine lv_aload_n hx hb dX10_image_43 rfl (lv_at hl 1 rfl) ?_
  refine va_get (D := G.1) (ci := 10) (v := .ref (w 0)) (C := RX10) (T := TX10) (N := 8) hx hb hts uX10_image_10 hown hK.1 hP 0 rfl rfl 0 (by decide) (hts (.fieldLink RX10 10 "RingShadow" "world" "LRingShadow$World;") (List.mem_of_getElem? (i := 5) rfl)) (fun _ h9 => h9) rfl dX10_image_44 ?_
  refine rs_callVv (As := [.ref (w 0)]) (rest := []) ⟨hx, hb, hml, hown, hts⟩ (c_X9_takeFrom l G (k 0) (w 0) (k 1) (k 2) (k 4) (w 1) (w 2) (w 4) (k 3) (w 3) (k 5) (k 6) (k 7) (w 5) (w 6) (w 7) ky wy kd0 kd1 kd2 kd3 kd4 kd5 kd6 wd0 wd1 wd2 wd3 wd4 wd5 wd6 wf kf kc wc wl kl wj kj wv kv N o0 o1 o2 o3 o4 o5 o6 o7 o8 o9 o10 o11 o12 h) (cwV 1 hts gX10_image_X9_takeFrom rfl rfl rfl (by decide +kernel) ⟨Nat.le_of_ble_eq_true rfl, Nat.le_of_ble_eq_true rfl⟩) dX10_image_47 hK hP hD hS hA [10, 2, 11, 3, 12, 4, 5, 13, 14, 6, 7, 15, 8, 16, 9, 17] rfl (by decide) rfl rfl (q0 := 0) (ci := 9) rfl rfl rfl hl.1 (lv_room (Nat.le_of_ble_eq_true rfl)) ⟨Nat.zero_le _, Nat.zero_le _⟩ (fun (_ : Unit) => [(A_a0, .inr (10, [.ref (w 0), .ref A_im, .ref r2, .ref r3, .ref r4, .ref r5, .ref r6, .ref r7])), (A_im, .inl (G.2.2.2.2.2, 2, .inr (.inr (.inr (.inr fi))))), (w 0, .inr (9, [.ref (w 1), .ref (w 2), .ref (w 4), .int wy])), (w 1, .inr (4, [.int wd0, .int wd1, .int wd2, .int wd3, .int wd4, .int wd5, .int wd6])), (w 2, .inr (6, [.ref (w 3)])), (w 3, .inl (G.2.1, 36, .inl wf)), (w 4, .inr (5, [.ref (w 5), .ref (w 6), .ref (w 7), .int wc])), (w 5, .inl (G.2.1, 8, .inl wl)), (w 6, .inl (G.2.1, 8, .inl wj)), (w 7, .inl (G.2.1, 8, .inl wv)), (k 0, .inr (9, [.ref (k 1), .ref (k 2), .ref (k 4), .int o0])), (k 1, .inr (4, [.int o1, .int o2, .int o3, .int o4, .int o5, .int o6, .int o7])), (k 2, .inr (6, [.ref (k 3)])), (k 3, .inl (G.2.1, 36, .inl o8)), (k 4, .inr (5, [.ref (k 5), .ref (k 6), .ref (k 7), .int o9])), (k 5, .inl (G.2.1, 8, .inl o10)), (k 6, .inl (G.2.1, 8, .inl o11)), (k 7, .inl (G.2.1, 8, .inl o12))]) (fun _ => rfl) (fun _ => rfl) (fun u10 H locs hP hD hS => ?_)
  refine lv_iconst (v := 1) hx hb dX10_image_50 (by decide) ?_
  exact ret () _ _ _ _ hP hS dX10_image_51 rfl
def rs_Cm (l : Launch) (y : MethodName) (ws : List Cond) (rm : Room) (G : rs_G) {τ : Type} (av : List Value) (wc : va_W) (wc2 : τ → va_W) (r : Int32) (mc ms : Nat) : Prop := ∀ sz : Nat, Met l y ws rm (va_Pc av (rs_B G sz wc)) (va_Qi (fun (r2 : Int32) (_ : τ) => r2 = r) (fun u t => va_P G.1 vwCl (wc2 u) t.heap ∧ va_D (va_A wc sz) (wc2 u)) (va_A wc sz)) mc ms (va_A wc sz)
set_option maxHeartbeats 4000000 in
theorem rs_enter_m {l : Launch} {y : MethodName} {ws ws2 : List Cond} {rm : Room} {G : rs_G} {τ : Type} {av : List Value} {wc : va_W} {wc2 : τ → va_W} {r : Int32} {mc ms : Nat} {cc : ByteArray} {maxL : Nat} {ty : FieldType} (hy : plainName y.cls = true) (hw : ws = Cond.code y cc maxL (some ty) :: ws2) (hlen : (lg_sl av).length ≤ maxL)
    (body : ∀ (p : Program) (e : Env) (s : State) (m : MethodId) (args : Array Value) (below : List Frame) (meth : Method) (c : Code) (A : Nat → Prop) (Q : State → Prop) (ls : Array Slot), rs_E p s m c args cc maxL ws y.cls G → (∀ (u : τ) (H : Heap) (locs : List Loc) (pc : Nat) (ls : Array Slot), va_P G.1 vwCl (wc2 u) H → va_D A (wc2 u) → va_S A s.heap H locs → decode cc pc = .ok (.ireturn, 1) → narrow ty (.int r) = .int r → W p l e rm s m args below meth c H locs mc ms Q (F0 m pc ls [.int r])) → va_P G.1 vwCl wc s.heap → va_D A wc → va_S A s.heap s.heap [] → (∀ q, s.heap.size ≤ q → A q) → lv_has ls maxL (lv_args 0 av) → W p l e rm s m args below meth c s.heap [] 0 0 Q (F0 m 0 ls [])) : rs_Cm l y ws rm G av wc wc2 r mc ms := by
  intro sz
  refine Met.ofW hy hw ?_
  intro p e s m args below meth c s₁ B hml hv
  obtain ⟨rfl, hsz, hP, hK, hD0⟩ := hv
  subst hsz
  have hD := hD0.self (sz := s.heap.size)
  have hl := lv_entry av (n := maxL) hlen
  rw [lg_entry_eq]
  refine body p e s m _ below meth c (va_A wc s.heap.size) _ _ ⟨B.exec, B.bytes, hml, findClass_of_methodNamed B.named, atoms_spec B.pre, hK⟩ (fun u H locs pc ls hP1 hD1 hS1 hd hn => W.zret B.exec B.bytes B.returns hn (fun t ht hW => ⟨⟨r, u, rfl, rfl, by show va_P G.1 vwCl (wc2 u) t.heap; rw [ht]; exact hP1, hD1⟩, hS1.F ht⟩) hS1.2.2 hd B.notSynchronized) hP hD va_S.rf (fun q h => Or.inr h) hl
theorem rs_app_at {a b : va_W} {k : Nat} {q : Nat × va_E} (h : (a ++ b)[k]? = some q) : (k < a.length ∧ a[k]? = some q) ∨ (a.length ≤ k ∧ b[k - a.length]? = some q) := by
  rcases Nat.lt_or_ge k a.length with z | z
  · rw [List.getElem?_append_left z] at h
    exact Or.inl ⟨z, h⟩
  · rw [List.getElem?_append_right z] at h
    exact Or.inr ⟨z, h⟩
theorem rs_joinN {A : Nat → Prop} {D : va_G} {cl : List vw_C} {ws wc wa wn : va_W} {H H1 : Heap} (hP : va_P D cl ws H) (hD : va_D A ws) (hA : ∀ q : Nat, H.size ≤ q → A q) (is : List Nat) (hC : is.map (fun i => ws[i]?) = wc.map some) (hf : wa.map Prod.fst = wc.map Prod.fst)
    (hk : ∀ q : Nat, q < H.size → ¬ va_A wc H.size q → H1[q]? = H[q]?) (hP1 : va_P D cl (wa ++ wn) H1) (hD1 : va_D (va_A wc H.size) (wa ++ wn)) : va_P D cl (rs_sets ws is wa ++ wn) H1 ∧ va_D A (rs_sets ws is wa ++ wn) := by
  have hPa : va_P D cl wa H1 := fun k q h => hP1 k q (by rw [List.getElem?_append_left (List.getElem?_eq_some_iff.mp h).1]; exact h)
  have hn1 : ∀ (k : Nat) (q : Nat × va_E), wn[k]? = some q → (wa ++ wn)[wa.length + k]? = some q := fun k q h => by
    rw [List.getElem?_append_right (Nat.le_add_right _ _), Nat.add_sub_cancel_left]
    exact h
  obtain ⟨hPs, hDs⟩ := rs_join hP hD is hC hf hk hPa
  have hmap := rs_sets_fst is ws wa wc hC hf
  have hold : ∀ (k : Nat) (q : Nat × va_E), (rs_sets ws is wa)[k]? = some q → q.1 < H.size := fun k q h => by
    have h1 : ((rs_sets ws is wa).map Prod.fst)[k]? = some q.1 := by rw [List.getElem?_map, h]; rfl
    rw [hmap, List.getElem?_map] at h1
    cases h2 : ws[k]? with
    | none => rw [h2] at h1; cases h1
    | some q0 =>
      rw [h2] at h1
      have h3 : q0.1 = q.1 := Option.some.inj h1
      rw [← h3]
      exact (hP k q0 h2).lt
  have hnew : ∀ (k : Nat) (q : Nat × va_E), wn[k]? = some q → H.size ≤ q.1 := fun k q h => by
    rcases hD1.2 _ q (hn1 k q h) with ⟨k2, e, z⟩ | z
    · exfalso
      have h1 : (wc.map Prod.fst)[k2]? = some q.1 := by rw [List.getElem?_map, z]; rfl
      rw [← hf, List.getElem?_map] at h1
      cases h2 : wa[k2]? with
      | none => rw [h2] at h1; cases h1
      | some q0 =>
        rw [h2] at h1
        have h3 : q0.1 = q.1 := Option.some.inj h1
        have hlt := (List.getElem?_eq_some_iff.mp h2).1
        have h4 : (wa ++ wn)[k2]? = some q0 := by rw [List.getElem?_append_left hlt]; exact h2
        have := hD1.1 k2 (wa.length + k) q0 q h4 (hn1 k q h) h3
        omega
    · exact z
  refine ⟨fun k q h => ?_, fun i j x y hi hj hxy => ?_, fun k q h => ?_⟩
  · rcases rs_app_at h with ⟨z, h⟩ | ⟨z, h⟩
    · exact hPs k q h
    · exact hP1 _ q (hn1 _ q h)
  · rcases rs_app_at hi with ⟨zi, hi⟩ | ⟨zi, hi⟩
    · rcases rs_app_at hj with ⟨zj, hj⟩ | ⟨zj, hj⟩
      · exact hDs.1 i j x y hi hj hxy
      · have h1 := hold i x hi
        have h2 := hnew _ y hj
        omega
    · rcases rs_app_at hj with ⟨zj, hj⟩ | ⟨zj, hj⟩
      · have h1 := hnew _ x hi
        have h2 := hold j y hj
        omega
      · have := hD1.1 _ _ x y (hn1 _ x hi) (hn1 _ y hj) hxy
        omega
  · rcases rs_app_at h with ⟨z, h⟩ | ⟨z, h⟩
    · exact hDs.2 k q h
    · exact hA _ (hnew _ q h)
set_option maxHeartbeats 4000000 in
theorem rs_callVm {p : Program} {l : Launch} {e : Env} {R : Room} {s : State} {m : MethodId} {args : Array Value} {below : List Frame} {meth : Method} {c : Code} {H H0 : Heap} {locs : List Loc} {cells slots mc ms : Nat} {Q : State → Prop} {pc nL maxL n index : Nat} {cc bytes : ByteArray} {ret : Option FieldType} {ls : Array Slot} {rest st0 As : List Value} {A : Nat → Prop} {τ : Type} {r : Int32} {G : rs_G} {ws wc : va_W} {wc2 wa wn : τ → va_W} {Ts wsy : List Cond} {own : String} {y : MethodName} {rm : Room} {C : String} {b : Addr} {q0 ci : Nat} {rc : vw_C} {fs : List Value} (S : CallFix p m c cc nL s args Ts own) (hM : rs_Cm l y wsy rm G (.ref b :: As) wc wc2 r mc ms) (cw : CallW R s args own C index y bytes maxL ret wsy rm mc ms n) (hdg : decode cc pc = .ok (.invokevirtual index, 3)) (hK : rs_K G s) (hP : va_P G.1 vwCl ws H) (hD : va_D A ws) (hS : va_S A H0 H locs) (hA : ∀ q, H0.size ≤ q → A q) (is : List Nat) (hC : is.map (fun i => ws[i]?) = wc.map some) (hnd : va_nd is = true) (hci : vwCl[ci]? = some rc) (hCe : rc.1 = C) (he : wc[q0]? = some (b, .inr (ci, fs))) (hn : As.length = n) (hst : st0 = As.reverse ++ .ref b :: rest) (hsize : ls.size = nL) (hW : 2 * (F0 m pc ls st0).monitorRoom + (rest.map fun v => v.category).sum ≤ 8) (hf0 : cells + mc ≤ R.cells ∧ slots + ms ≤ R.slots) (hsp : ∀ u, wc2 u = wa u ++ wn u) (hf : ∀ u, (wa u).map Prod.fst = wc.map Prod.fst) (ws1 : τ → va_W) (hw1 : ∀ u, rs_sets ws is (wa u) = ws1 u)
    (kk : ∀ (u : τ) (H1 : Heap) (locs1 : List Loc), va_P G.1 vwCl (ws1 u ++ wn u) H1 → va_D A (ws1 u ++ wn u) → va_S A H0 H1 locs1 → W p l e R s m args below meth c H1 locs1 (cells + mc) (slots + ms) Q (F0 m (pc + 3) ls (.int r :: rest))) : W p l e R s m args below meth c H locs cells slots Q (F0 m pc ls st0) := by
  have hPc := hP.sub (ws' := wc) is (by have := congrArg (List.filterMap id) hC; simpa [List.filterMap_map] using this)
  have hDc := hD.sub (ws' := wc) is hnd hC
  subst hCe
  have hFc := va_free (wc := wc) hD hS hA is hC
  refine va_calli (va_runV (As := As) (rest := rest) S (hM H.size) cw (rs_preV hPc hK hDc hci he) rfl hn hsize hst hW hdg hf0) hS (fun q _ h => hFc q h) hFc (fun r1 u t H1 locs1 ht hvm hw hB hz1 hk1 hS1 => ?_)
  subst hw
  obtain ⟨hB1, hB2⟩ := hB
  rw [ht, hsp] at hB1
  rw [hsp] at hB2
  obtain ⟨h1, h2⟩ := rs_joinN hP hD (fun q h => hA q (Nat.le_trans hS.1 h)) is hC (hf u) hk1 hB1 hB2
  rw [hw1] at h1 h2
  exact kk u H1 locs1 h1 h2 hS1
set_option maxHeartbeats 1000000 in
theorem c_X10_imageN (l : Launch) (G : rs_G) (A_a0 A_im r2 r3 r4 r5 r6 r7 : Nat) (fi : Nat → Option Nat) (p1 : Int32) (w : Nat → Nat) (wy wd0 wd1 wd2 wd3 wd4 wd5 wd6 wc : Int32) (wf wl wj wv : Nat → Int32) (N : Nat) (f0 : Nat → Int32) (o0 : Int32) (o1 : Int32) (o2 : Int32) (o3 : Int32) (o4 : Int32) (o5 : Int32) (o6 : Int32) (o7 : Int32) (o8 : Nat → Int32) (o9 : Int32) (o10 o11 o12 : Nat → Int32) (hp : vp_in p1 2) (hf : fi p1.toNatClampNeg = none) (h0 : f_X6_begin N (fun _ => 0) = some f0) (h : f_X9_takeFrom N wy wd0 wd1 wd2 wd3 wd4 wd5 wd6 wf f0 wc wl (fun _ => 0) wj (fun _ => 0) wv (fun _ => 0) = some (o0, o1, o2, o3, o4, o5, o6, o7, o8, o9, o10, o11, o12)) : rs_Cm l yX10_image wsX10_image rmX10_imageN G [.ref A_a0, .int p1] [(A_a0, .inr (10, [.ref (w 0), .ref A_im, .ref r2, .ref r3, .ref r4, .ref r5, .ref r6, .ref r7])), (A_im, .inl (G.2.2.2.2.2, 2, .inr (.inr (.inr (.inr fi))))), (w 0, .inr (9, [.ref (w 1), .ref (w 2), .ref (w 4), .int wy])), (w 1, .inr (4, [.int wd0, .int wd1, .int wd2, .int wd3, .int wd4, .int wd5, .int wd6])), (w 2, .inr (6, [.ref (w 3)])), (w 3, .inl (G.2.1, 36, .inl wf)), (w 4, .inr (5, [.ref (w 5), .ref (w 6), .ref (w 7), .int wc])), (w 5, .inl (G.2.1, 8, .inl wl)), (w 6, .inl (G.2.1, 8, .inl wj)), (w 7, .inl (G.2.1, 8, .inl wv))] (fun (u : Nat × Nat × Nat × Nat × Nat × Nat × Nat × Nat) => [(A_a0, .inr (10, [.ref (w 0), .ref A_im, .ref r2, .ref r3, .ref r4, .ref r5, .ref r6, .ref r7])), (A_im, .inl (G.2.2.2.2.2, 2, .inr (.inr (.inr (.inr (va_up fi p1.toNatClampNeg (some u.1))))))), (w 0, .inr (9, [.ref (w 1), .ref (w 2), .ref (w 4), .int wy])), (w 1, .inr (4, [.int wd0, .int wd1, .int wd2, .int wd3, .int wd4, .int wd5, .int wd6])), (w 2, .inr (6, [.ref (w 3)])), (w 3, .inl (G.2.1, 36, .inl wf)), (w 4, .inr (5, [.ref (w 5), .ref (w 6), .ref (w 7), .int wc])), (w 5, .inl (G.2.1, 8, .inl wl)), (w 6, .inl (G.2.1, 8, .inl wj)), (w 7, .inl (G.2.1, 8, .inl wv)), (u.1, .inr (9, [.ref u.2.1, .ref u.2.2.1, .ref u.2.2.2.2.1, .int o0])), (u.2.1, .inr (4, [.int o1, .int o2, .int o3, .int o4, .int o5, .int o6, .int o7])), (u.2.2.1, .inr (6, [.ref u.2.2.2.1])), (u.2.2.2.1, .inl (G.2.1, 36, .inl o8)), (u.2.2.2.2.1, .inr (5, [.ref u.2.2.2.2.2.1, .ref u.2.2.2.2.2.2.1, .ref u.2.2.2.2.2.2.2, .int o9])), (u.2.2.2.2.2.1, .inl (G.2.1, 8, .inl o10)), (u.2.2.2.2.2.2.1, .inl (G.2.1, 8, .inl o11)), (u.2.2.2.2.2.2.2, .inl (G.2.1, 8, .inl o12))]) 1 8 76 := by
  refine rs_enter_m (cc := cX10_image) (maxL := 3) (ty := .int) (by decide) rfl (Nat.le_of_ble_eq_true rfl) (fun p e s m args below meth c A Q ls E ret hP hD hS hA hl => ?_)
  obtain ⟨hx, hb, hml, hown, hts, hK⟩ := E
  have hown : s.vm.findClass RX10 = some m.cls := hown
  have hl : lv_has ls 3 [(0, .ref A_a0), (1, .int p1)] := hl
  refine lv_iload_n hx hb dX10_image_0 rfl (lv_at hl 1 rfl) ?_
  refine lv_if_lt (tgt := 13) hx hb dX10_image_1 (by decide) (fun hc => absurd (Or.inl hc) hp) (fun _ => ?_)
  refine lv_iload_n hx hb dX10_image_4 rfl (lv_at hl 1 rfl) ?_
  refine lv_aload_n hx hb dX10_image_5 rfl (lv_at hl 0 rfl) ?_
  refine va_get (D := G.1) (ci := 10) (v := .ref A_im) (C := RX10) (T := TX10) (N := 8) hx hb hts uX10_image_10 hown hK.1 hP 0 rfl rfl 1 (by decide) (hts (.fieldLink RX10 16 "RingShadow" "images" "[LRingShadow$World;") (List.mem_of_getElem? (i := 1) rfl)) (fun _ h9 => h9) rfl dX10_image_6 ?_
  refine va_alen (v := 2) hx hb hK.1 hP 1 4 rfl rfl rfl dX10_image_9 ?_
  refine lv_icmp_lt (tgt := 16) hx hb dX10_image_10 (by decide) (fun _ => ?_) (fun hc => absurd (rs_in2 hp) hc)
  refine lv_aload_n hx hb dX10_image_16 rfl (lv_at hl 0 rfl) ?_
  refine va_get (D := G.1) (ci := 10) (v := .ref A_im) (C := RX10) (T := TX10) (N := 8) hx hb hts uX10_image_10 hown hK.1 hP 0 rfl rfl 1 (by decide) (hts (.fieldLink RX10 16 "RingShadow" "images" "[LRingShadow$World;") (List.mem_of_getElem? (i := 1) rfl)) (fun _ h9 => h9) rfl dX10_image_17 ?_
  refine lv_iload_n hx hb dX10_image_20 rfl (lv_at hl 1 rfl) ?_
  refine va_aldq hx hb hK.1 hP 1 4 rfl rfl hp dX10_image_21 ?_
  rw [hf]
  refine lv_astore_nN (lv' := [(2, .null), (0, .ref A_a0), (1, .int p1)]) hx hb dX10_image_22 rfl hl (by decide) rfl (fun ls hl => ?_)
  refine lv_aload_nN hx hb dX10_image_23 rfl (lv_at hl 0 rfl) ?_
  refine lv_ifnonnullN hx hb dX10_image_24 ?_
  refine va_new (ci := 9) (fs := [.null, .null, .null, .int 0]) (C := RX9) (T := TX9) (N := 4) hx hb hts uX10_image_9 tyX9 tyX9_ok hown (hts (.classLink RX10 7 RX9) (List.mem_of_getElem? (i := 2) rfl)) (hts (.instantiable RX9 4) (List.mem_of_getElem? (i := 3) rfl)) (hts (.initialized RX9) (List.mem_of_getElem? (i := 4) rfl)) hK.1 hP hD hS hA rfl (fun j hj => by rcases (show j = 0 ∨ j = 1 ∨ j = 2 ∨ j = 3 by omega) with rfl | rfl | rfl | rfl <;> rfl) (Nat.le_of_ble_eq_true rfl) (Nat.le_of_ble_eq_true rfl) dX10_image_27 (fun q1 H hP hD hS => ?_)
  have hP : va_P G.1 vwCl [(A_a0, .inr (10, [.ref (w 0), .ref A_im, .ref r2, .ref r3, .ref r4, .ref r5, .ref r6, .ref r7])), (A_im, .inl (G.2.2.2.2.2, 2, .inr (.inr (.inr (.inr fi))))), (w 0, .inr (9, [.ref (w 1), .ref (w 2), .ref (w 4), .int wy])), (w 1, .inr (4, [.int wd0, .int wd1, .int wd2, .int wd3, .int wd4, .int wd5, .int wd6])), (w 2, .inr (6, [.ref (w 3)])), (w 3, .inl (G.2.1, 36, .inl wf)), (w 4, .inr (5, [.ref (w 5), .ref (w 6), .ref (w 7), .int wc])), (w 5, .inl (G.2.1, 8, .inl wl)), (w 6, .inl (G.2.1, 8, .inl wj)), (w 7, .inl (G.2.1, 8, .inl wv)), (q1, .inr (9, [.null, .null, .null, .int 0]))] H := hP
  have hD : va_D A [(A_a0, .inr (10, [.ref (w 0), .ref A_im, .ref r2, .ref r3, .ref r4, .ref r5, .ref r6, .ref r7])), (A_im, .inl (G.2.2.2.2.2, 2, .inr (.inr (.inr (.inr fi))))), (w 0, .inr (9, [.ref (w 1), .ref (w 2), .ref (w 4), .int wy])), (w 1, .inr (4, [.int wd0, .int wd1, .int wd2, .int wd3, .int wd4, .int wd5, .int wd6])), (w 2, .inr (6, [.ref (w 3)])), (w 3, .inl (G.2.1, 36, .inl wf)), (w 4, .inr (5, [.ref (w 5), .ref (w 6), .ref (w 7), .int wc])), (w 5, .inl (G.2.1, 8, .inl wl)), (w 6, .inl (G.2.1, 8, .inl wj)), (w 7, .inl (G.2.1, 8, .inl wv)), (q1, .inr (9, [.null, .null, .null, .int 0]))] := hD
  refine lv_dup hx hb dX10_image_30 rfl ?_
  refine rs_callI (As := []) (rest := [.ref q1]) (wr := [(A_a0, .inr (10, [.ref (w 0), .ref A_im, .ref r2, .ref r3, .ref r4, .ref r5, .ref r6, .ref r7])), (A_im, .inl (G.2.2.2.2.2, 2, .inr (.inr (.inr (.inr fi))))), (w 0, .inr (9, [.ref (w 1), .ref (w 2), .ref (w 4), .int wy])), (w 1, .inr (4, [.int wd0, .int wd1, .int wd2, .int wd3, .int wd4, .int wd5, .int wd6])), (w 2, .inr (6, [.ref (w 3)])), (w 3, .inl (G.2.1, 36, .inl wf)), (w 4, .inr (5, [.ref (w 5), .ref (w 6), .ref (w 7), .int wc])), (w 5, .inl (G.2.1, 8, .inl wl)), (w 6, .inl (G.2.1, 8, .inl wj)), (w 7, .inl (G.2.1, 8, .inl wv))]) (index := 9) ⟨hx, hb, hml, hown, hts⟩ (c_X9_init l G q1 N f0 h0) (cwI 0 hts gX10_image_X9_init rfl rfl rfl (hts (.initialized RX9) (List.mem_of_getElem? (i := 4) rfl)) (hts (.methodLink RX10 9 yX9_init) (List.mem_of_getElem? (i := 6) rfl)) (hts (.instanceMethod yX9_init) (List.mem_of_getElem? (i := 7) rfl)) rfl (by decide +kernel) ⟨Nat.le_of_ble_eq_true rfl, Nat.le_of_ble_eq_true rfl⟩) dX10_image_31 hK hP hD hS hA [10] [0, 1, 2, 3, 4, 5, 6, 7, 8, 9] rfl rfl (by decide) (by decide) (by decide) rfl rfl hl.1 (lv_room (Nat.le_of_ble_eq_true rfl)) ⟨Nat.le_of_ble_eq_true rfl, Nat.le_of_ble_eq_true rfl⟩ (fun u H locs hP hD hS => ?_)
  have hP : va_P G.1 vwCl [(A_a0, .inr (10, [.ref (w 0), .ref A_im, .ref r2, .ref r3, .ref r4, .ref r5, .ref r6, .ref r7])), (A_im, .inl (G.2.2.2.2.2, 2, .inr (.inr (.inr (.inr fi))))), (w 0, .inr (9, [.ref (w 1), .ref (w 2), .ref (w 4), .int wy])), (w 1, .inr (4, [.int wd0, .int wd1, .int wd2, .int wd3, .int wd4, .int wd5, .int wd6])), (w 2, .inr (6, [.ref (w 3)])), (w 3, .inl (G.2.1, 36, .inl wf)), (w 4, .inr (5, [.ref (w 5), .ref (w 6), .ref (w 7), .int wc])), (w 5, .inl (G.2.1, 8, .inl wl)), (w 6, .inl (G.2.1, 8, .inl wj)), (w 7, .inl (G.2.1, 8, .inl wv)), (q1, .inr (9, [.ref u.1, .ref u.2.1, .ref u.2.2.2.1, .int 0])), (u.1, .inr (4, [.int 6, .int 2, .int 1, .int 0, .int 0, .int 1, .int 1])), (u.2.1, .inr (6, [.ref u.2.2.1])), (u.2.2.1, .inl (G.2.1, 36, .inl f0)), (u.2.2.2.1, .inr (5, [.ref u.2.2.2.2.1, .ref u.2.2.2.2.2.1, .ref u.2.2.2.2.2.2, .int 0])), (u.2.2.2.2.1, .inl (G.2.1, 8, .inl (fun _ => 0))), (u.2.2.2.2.2.1, .inl (G.2.1, 8, .inl (fun _ => 0))), (u.2.2.2.2.2.2, .inl (G.2.1, 8, .inl (fun _ => 0)))] H := hP
  have hD : va_D A [(A_a0, .inr (10, [.ref (w 0), .ref A_im, .ref r2, .ref r3, .ref r4, .ref r5, .ref r6, .ref r7])), (A_im, .inl (G.2.2.2.2.2, 2, .inr (.inr (.inr (.inr fi))))), (w 0, .inr (9, [.ref (w 1), .ref (w 2), .ref (w 4), .int wy])), (w 1, .inr (4, [.int wd0, .int wd1, .int wd2, .int wd3, .int wd4, .int wd5, .int wd6])), (w 2, .inr (6, [.ref (w 3)])), (w 3, .inl (G.2.1, 36, .inl wf)), (w 4, .inr (5, [.ref (w 5), .ref (w 6), .ref (w 7), .int wc])), (w 5, .inl (G.2.1, 8, .inl wl)), (w 6, .inl (G.2.1, 8, .inl wj)), (w 7, .inl (G.2.1, 8, .inl wv)), (q1, .inr (9, [.ref u.1, .ref u.2.1, .ref u.2.2.2.1, .int 0])), (u.1, .inr (4, [.int 6, .int 2, .int 1, .int 0, .int 0, .int 1, .int 1])), (u.2.1, .inr (6, [.ref u.2.2.1])), (u.2.2.1, .inl (G.2.1, 36, .inl f0)), (u.2.2.2.1, .inr (5, [.ref u.2.2.2.2.1, .ref u.2.2.2.2.2.1, .ref u.2.2.2.2.2.2, .int 0])), (u.2.2.2.2.1, .inl (G.2.1, 8, .inl (fun _ => 0))), (u.2.2.2.2.2.1, .inl (G.2.1, 8, .inl (fun _ => 0))), (u.2.2.2.2.2.2, .inl (G.2.1, 8, .inl (fun _ => 0)))] := hD
  refine lv_astore_n (lv' := [(2, .ref q1), (0, .ref A_a0), (1, .int p1)]) hx hb dX10_image_34 rfl hl (by decide) rfl (fun ls hl => ?_)
  refine lv_aload_n hx hb dX10_image_35 rfl (lv_at hl 1 rfl) ?_
  refine va_get (D := G.1) (ci := 10) (v := .ref A_im) (C := RX10) (T := TX10) (N := 8) hx hb hts uX10_image_10 hown hK.1 hP 0 rfl rfl 1 (by decide) (hts (.fieldLink RX10 16 "RingShadow" "images" "[LRingShadow$World;") (List.mem_of_getElem? (i := 1) rfl)) (fun _ h9 => h9) rfl dX10_image_36 ?_
  refine lv_iload_n hx hb dX10_image_39 rfl (lv_at hl 2 rfl) ?_
  refine lv_aload_n hx hb dX10_image_40 rfl (lv_at hl 0 rfl) ?_
  refine va_astq (r := (RX9, TX9, 4)) hx hb hK.1 hP hD hS 1 4 10 9 rfl rfl rfl rfl hp dX10_image_41 (fun H locs hP hD hS => ?_)
  have hP : va_P G.1 vwCl [(A_a0, .inr (10, [.ref (w 0), .ref A_im, .ref r2, .ref r3, .ref r4, .ref r5, .ref r6, .ref r7])), (A_im, .inl (G.2.2.2.2.2, 2, .inr (.inr (.inr (.inr (va_up fi p1.toNatClampNeg (some q1))))))), (w 0, .inr (9, [.ref (w 1), .ref (w 2), .ref (w 4), .int wy])), (w 1, .inr (4, [.int wd0, .int wd1, .int wd2, .int wd3, .int wd4, .int wd5, .int wd6])), (w 2, .inr (6, [.ref (w 3)])), (w 3, .inl (G.2.1, 36, .inl wf)), (w 4, .inr (5, [.ref (w 5), .ref (w 6), .ref (w 7), .int wc])), (w 5, .inl (G.2.1, 8, .inl wl)), (w 6, .inl (G.2.1, 8, .inl wj)), (w 7, .inl (G.2.1, 8, .inl wv)), (q1, .inr (9, [.ref u.1, .ref u.2.1, .ref u.2.2.2.1, .int 0])), (u.1, .inr (4, [.int 6, .int 2, .int 1, .int 0, .int 0, .int 1, .int 1])), (u.2.1, .inr (6, [.ref u.2.2.1])), (u.2.2.1, .inl (G.2.1, 36, .inl f0)), (u.2.2.2.1, .inr (5, [.ref u.2.2.2.2.1, .ref u.2.2.2.2.2.1, .ref u.2.2.2.2.2.2, .int 0])), (u.2.2.2.2.1, .inl (G.2.1, 8, .inl (fun _ => 0))), (u.2.2.2.2.2.1, .inl (G.2.1, 8, .inl (fun _ => 0))), (u.2.2.2.2.2.2, .inl (G.2.1, 8, .inl (fun _ => 0)))] H := hP
  have hD : va_D A [(A_a0, .inr (10, [.ref (w 0), .ref A_im, .ref r2, .ref r3, .ref r4, .ref r5, .ref r6, .ref r7])), (A_im, .inl (G.2.2.2.2.2, 2, .inr (.inr (.inr (.inr (va_up fi p1.toNatClampNeg (some q1))))))), (w 0, .inr (9, [.ref (w 1), .ref (w 2), .ref (w 4), .int wy])), (w 1, .inr (4, [.int wd0, .int wd1, .int wd2, .int wd3, .int wd4, .int wd5, .int wd6])), (w 2, .inr (6, [.ref (w 3)])), (w 3, .inl (G.2.1, 36, .inl wf)), (w 4, .inr (5, [.ref (w 5), .ref (w 6), .ref (w 7), .int wc])), (w 5, .inl (G.2.1, 8, .inl wl)), (w 6, .inl (G.2.1, 8, .inl wj)), (w 7, .inl (G.2.1, 8, .inl wv)), (q1, .inr (9, [.ref u.1, .ref u.2.1, .ref u.2.2.2.1, .int 0])), (u.1, .inr (4, [.int 6, .int 2, .int 1, .int 0, .int 0, .int 1, .int 1])), (u.2.1, .inr (6, [.ref u.2.2.1])), (u.2.2.1, .inl (G.2.1, 36, .inl f0)), (u.2.2.2.1, .inr (5, [.ref u.2.2.2.2.1, .ref u.2.2.2.2.2.1, .ref u.2.2.2.2.2.2, .int 0])), (u.2.2.2.2.1, .inl (G.2.1, 8, .inl (fun _ => 0))), (u.2.2.2.2.2.1, .inl (G.2.1, 8, .inl (fun _ => 0))), (u.2.2.2.2.2.2, .inl (G.2.1, 8, .inl (fun _ => 0)))] := hD
  refine lv_aload_n hx hb dX10_image_42 rfl (lv_at hl 0 rfl) ?_
  refine lv_aload_n hx hb dX10_image_43 rfl (lv_at hl 1 rfl) ?_
  refine va_get (D := G.1) (ci := 10) (v := .ref (w 0)) (C := RX10) (T := TX10) (N := 8) hx hb hts uX10_image_10 hown hK.1 hP 0 rfl rfl 0 (by decide) (hts (.fieldLink RX10 10 "RingShadow" "world" "LRingShadow$World;") (List.mem_of_getElem? (i := 5) rfl)) (fun _ h9 => h9) rfl dX10_image_44 ?_
  refine rs_callVv (As := [.ref (w 0)]) (rest := []) ⟨hx, hb, hml, hown, hts⟩ (c_X9_takeFrom l G q1 (w 0) u.1 u.2.1 u.2.2.2.1 (w 1) (w 2) (w 4) u.2.2.1 (w 3) u.2.2.2.2.1 u.2.2.2.2.2.1 u.2.2.2.2.2.2 (w 5) (w 6) (w 7) 0 wy 6 2 1 0 0 1 1 wd0 wd1 wd2 wd3 wd4 wd5 wd6 wf f0 0 wc wl (fun _ => 0) wj (fun _ => 0) wv (fun _ => 0) N o0 o1 o2 o3 o4 o5 o6 o7 o8 o9 o10 o11 o12 h) (cwV 1 hts gX10_image_X9_takeFrom rfl rfl rfl (by decide +kernel) ⟨Nat.le_of_ble_eq_true rfl, Nat.le_of_ble_eq_true rfl⟩) dX10_image_47 hK hP hD hS hA [10, 2, 11, 3, 12, 4, 5, 13, 14, 6, 7, 15, 8, 16, 9, 17] rfl (by decide) rfl rfl (q0 := 0) (ci := 9) rfl rfl rfl hl.1 (lv_room (Nat.le_of_ble_eq_true rfl)) ⟨Nat.le_of_ble_eq_true rfl, Nat.le_of_ble_eq_true rfl⟩ (fun (_ : Unit) => [(A_a0, .inr (10, [.ref (w 0), .ref A_im, .ref r2, .ref r3, .ref r4, .ref r5, .ref r6, .ref r7])), (A_im, .inl (G.2.2.2.2.2, 2, .inr (.inr (.inr (.inr (va_up fi p1.toNatClampNeg (some q1))))))), (w 0, .inr (9, [.ref (w 1), .ref (w 2), .ref (w 4), .int wy])), (w 1, .inr (4, [.int wd0, .int wd1, .int wd2, .int wd3, .int wd4, .int wd5, .int wd6])), (w 2, .inr (6, [.ref (w 3)])), (w 3, .inl (G.2.1, 36, .inl wf)), (w 4, .inr (5, [.ref (w 5), .ref (w 6), .ref (w 7), .int wc])), (w 5, .inl (G.2.1, 8, .inl wl)), (w 6, .inl (G.2.1, 8, .inl wj)), (w 7, .inl (G.2.1, 8, .inl wv)), (q1, .inr (9, [.ref u.1, .ref u.2.1, .ref u.2.2.2.1, .int o0])), (u.1, .inr (4, [.int o1, .int o2, .int o3, .int o4, .int o5, .int o6, .int o7])), (u.2.1, .inr (6, [.ref u.2.2.1])), (u.2.2.1, .inl (G.2.1, 36, .inl o8)), (u.2.2.2.1, .inr (5, [.ref u.2.2.2.2.1, .ref u.2.2.2.2.2.1, .ref u.2.2.2.2.2.2, .int o9])), (u.2.2.2.2.1, .inl (G.2.1, 8, .inl o10)), (u.2.2.2.2.2.1, .inl (G.2.1, 8, .inl o11)), (u.2.2.2.2.2.2, .inl (G.2.1, 8, .inl o12))]) (fun _ => rfl) (fun _ => rfl) (fun u10 H locs hP hD hS => ?_)
  refine lv_iconst (v := 1) hx hb dX10_image_50 (by decide) ?_
  exact ret (q1, u) H locs 51 ls hP hD hS dX10_image_51 rfl
