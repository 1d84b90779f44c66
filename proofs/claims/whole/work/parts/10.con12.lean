theorem uX11_fault_11 : ∀ w ∈ wsX110, w ∈ wsX11_fault := fun _ h => List.mem_cons_of_mem _ (List.mem_append_right _ h)
abbrev rmX11_fault : Room := { frames := 2, cells := 0, slots := 0, locals := 46 }
set_option maxRecDepth 100000 in
set_option maxHeartbeats 4000000 in
theorem c_X11_fault (l : Launch) (G : rs_G) (A_a0 : Nat) (A_a0_is : Nat) (A_a0_sightLand : Nat) (A_a0_sightYear : Nat) (A_a0_sightCovered : Nat) (A_a0_pad : Nat) (A_a0_act : Nat) (A_a0_from : Nat) (A_a0_to : Nat) (A_a0_much : Nat) (A_a0_hungryIn : Nat) (A_a0_had : Nat) (A_a0_leaves : Nat) (A_a0_steps : Nat) (A_a0_nextSteps : Nat) (A_a0_waysTo : Nat) (A_a0_nextWays : Nat) (A_a0_covering : Nat) (A_a0_kept : Nat) (A_a0_isKept : Nat) (v_a0_lands : Int32) (v_a0_wide : Int32) (v_a0_pace : Int32) (v_a0_age : Int32) (v_a0_slitM : Int32) (v_a0_slitA : Int32) (v_a0_slitB : Int32) (v_a0_year : Int32) (v_a0_sights : Int32) (v_a0_padMany : Int32) (v_a0_acts : Int32) (v_a0_hungers : Int32) (v_a0_hadYear : Int32) (v_a0_badAct : Int32) (v_a0_badWhy : Int32) (v_a0_years : Int32) (v_a0_yearThen : Int32) (v_a0_lawMany : Int32) (v_a0_keptAt : Int32) (v_a0_isWriting : Int32) (v_a0_pad : (Nat → Int32)) (v_a0_act : (Nat → Int32)) (v_a0_from : (Nat → Int32)) (v_a0_to : (Nat → Int32)) (v_a0_much : (Nat → Int32)) (N : Nat) (r0 : Int32) (o0 : Int32) (o1 : (Nat → Int32)) (o2 : (Nat → Int32)) (o3 : (Nat → Int32)) (o4 : (Nat → Int32)) (h : f_X11_fault N v_a0_lands v_a0_padMany v_a0_pad v_a0_act v_a0_from v_a0_to v_a0_much = some (r0, o0, o1, o2, o3, o4)) : rs_Ci l yX11_fault wsX11_fault rmX11_fault G [.ref A_a0] [(A_a0, .inr (11, [.int v_a0_lands, .int v_a0_wide, .int v_a0_pace, .int v_a0_age, .int v_a0_slitM, .int v_a0_slitA, .int v_a0_slitB, .int v_a0_year, .ref A_a0_is, .ref A_a0_sightLand, .ref A_a0_sightYear, .ref A_a0_sightCovered, .int v_a0_sights, .ref A_a0_pad, .int v_a0_padMany, .ref A_a0_act, .ref A_a0_from, .ref A_a0_to, .ref A_a0_much, .int v_a0_acts, .int v_a0_hungers, .ref A_a0_hungryIn, .ref A_a0_had, .int v_a0_hadYear, .int v_a0_badAct, .int v_a0_badWhy, .int v_a0_years, .ref A_a0_leaves, .int v_a0_yearThen, .ref A_a0_steps, .ref A_a0_nextSteps, .ref A_a0_waysTo, .ref A_a0_nextWays, .int v_a0_lawMany, .ref A_a0_covering, .ref A_a0_kept, .ref A_a0_isKept, .int v_a0_keptAt, .int v_a0_isWriting])), (A_a0_pad, .inl (G.2.1, 60, .inl v_a0_pad)), (A_a0_act, .inl (G.2.1, 60, .inl v_a0_act)), (A_a0_from, .inl (G.2.1, 60, .inl v_a0_from)), (A_a0_to, .inl (G.2.1, 60, .inl v_a0_to)), (A_a0_much, .inl (G.2.1, 60, .inl v_a0_much))] (fun (_ : Unit) => [(A_a0, .inr (11, [.int v_a0_lands, .int v_a0_wide, .int v_a0_pace, .int v_a0_age, .int v_a0_slitM, .int v_a0_slitA, .int v_a0_slitB, .int v_a0_year, .ref A_a0_is, .ref A_a0_sightLand, .ref A_a0_sightYear, .ref A_a0_sightCovered, .int v_a0_sights, .ref A_a0_pad, .int v_a0_padMany, .ref A_a0_act, .ref A_a0_from, .ref A_a0_to, .ref A_a0_much, .int o0, .int v_a0_hungers, .ref A_a0_hungryIn, .ref A_a0_had, .int v_a0_hadYear, .int v_a0_badAct, .int v_a0_badWhy, .int v_a0_years, .ref A_a0_leaves, .int v_a0_yearThen, .ref A_a0_steps, .ref A_a0_nextSteps, .ref A_a0_waysTo, .ref A_a0_nextWays, .int v_a0_lawMany, .ref A_a0_covering, .ref A_a0_kept, .ref A_a0_isKept, .int v_a0_keptAt, .int v_a0_isWriting])), (A_a0_pad, .inl (G.2.1, 60, .inl v_a0_pad)), (A_a0_act, .inl (G.2.1, 60, .inl o1)), (A_a0_from, .inl (G.2.1, 60, .inl o2)), (A_a0_to, .inl (G.2.1, 60, .inl o3)), (A_a0_much, .inl (G.2.1, 60, .inl o4))]) r0 := by
  refine rs_enter_i (cc := cX11_fault) (maxL := 6) (ty := .int) (by decide) rfl (Nat.le_of_ble_eq_true rfl) (fun p e s m args below meth c A Q ls E ret hP hD hS hA hl => ?_)
  obtain ⟨hx, hb, hml, hown, hts, hK⟩ := E
  have hown : s.vm.findClass RX11 = some m.cls := hown
  have hl : lv_has ls 6 [(0, .ref A_a0)] := hl
  have ret : ∀ (v0 : Int32) (w0 : Int32) (w1 : (Nat → Int32)) (w2 : (Nat → Int32)) (w3 : (Nat → Int32)) (w4 : (Nat → Int32)) (u : Unit) (H : Heap) (locs : List Loc) (pc : Nat) (ls : Array Slot), some (v0, w0, w1, w2, w3, w4) = some (r0, o0, o1, o2, o3, o4) → va_P G.1 vwCl [(A_a0, .inr (11, [.int v_a0_lands, .int v_a0_wide, .int v_a0_pace, .int v_a0_age, .int v_a0_slitM, .int v_a0_slitA, .int v_a0_slitB, .int v_a0_year, .ref A_a0_is, .ref A_a0_sightLand, .ref A_a0_sightYear, .ref A_a0_sightCovered, .int v_a0_sights, .ref A_a0_pad, .int v_a0_padMany, .ref A_a0_act, .ref A_a0_from, .ref A_a0_to, .ref A_a0_much, .int w0, .int v_a0_hungers, .ref A_a0_hungryIn, .ref A_a0_had, .int v_a0_hadYear, .int v_a0_badAct, .int v_a0_badWhy, .int v_a0_years, .ref A_a0_leaves, .int v_a0_yearThen, .ref A_a0_steps, .ref A_a0_nextSteps, .ref A_a0_waysTo, .ref A_a0_nextWays, .int v_a0_lawMany, .ref A_a0_covering, .ref A_a0_kept, .ref A_a0_isKept, .int v_a0_keptAt, .int v_a0_isWriting])), (A_a0_pad, .inl (G.2.1, 60, .inl v_a0_pad)), (A_a0_act, .inl (G.2.1, 60, .inl w1)), (A_a0_from, .inl (G.2.1, 60, .inl w2)), (A_a0_to, .inl (G.2.1, 60, .inl w3)), (A_a0_much, .inl (G.2.1, 60, .inl w4))] H → va_S A s.heap H locs → decode cX11_fault pc = .ok (.ireturn, 1) → narrow .int (.int v0) = .int v0 → W p l e rmX11_fault s m args below meth c H locs 0 0 Q (F0 m pc ls [.int v0]) := by
    intro v0 w0 w1 w2 w3 w4 u H locs pc ls hz
    cases hz
    exact ret u H locs pc ls
  unfold f_X11_fault at h
  refine lv_aload_n hx hb dX11_fault_0 rfl (lv_at hl 0 rfl) ?_
  refine lv_iconst (v := 0) hx hb dX11_fault_1 (by decide) ?_
  refine va_put (D := G.1) (ci := 11) (v := .int 0) (ty := .int) (C := RX11) (T := TX11) (N := 39) hx hb hts uX11_fault_11 tyX11 tyX11_ok nmX11 hown hK.1 hP hD hS 0 rfl rfl 19 (by decide) (hts (.fieldLink RX11 142 "RingShadowModel" "acts" "I") (List.mem_of_getElem? (i := 1) rfl)) (fun _ h9 => h9) rfl (by decide +kernel) rfl rfl (Nat.le_of_ble_eq_true rfl) dX11_fault_2 (fun H locs hP hD hS => ?_)
  have hP : va_P G.1 vwCl [(A_a0, .inr (11, [.int v_a0_lands, .int v_a0_wide, .int v_a0_pace, .int v_a0_age, .int v_a0_slitM, .int v_a0_slitA, .int v_a0_slitB, .int v_a0_year, .ref A_a0_is, .ref A_a0_sightLand, .ref A_a0_sightYear, .ref A_a0_sightCovered, .int v_a0_sights, .ref A_a0_pad, .int v_a0_padMany, .ref A_a0_act, .ref A_a0_from, .ref A_a0_to, .ref A_a0_much, .int 0, .int v_a0_hungers, .ref A_a0_hungryIn, .ref A_a0_had, .int v_a0_hadYear, .int v_a0_badAct, .int v_a0_badWhy, .int v_a0_years, .ref A_a0_leaves, .int v_a0_yearThen, .ref A_a0_steps, .ref A_a0_nextSteps, .ref A_a0_waysTo, .ref A_a0_nextWays, .int v_a0_lawMany, .ref A_a0_covering, .ref A_a0_kept, .ref A_a0_isKept, .int v_a0_keptAt, .int v_a0_isWriting])), (A_a0_pad, .inl (G.2.1, 60, .inl v_a0_pad)), (A_a0_act, .inl (G.2.1, 60, .inl v_a0_act)), (A_a0_from, .inl (G.2.1, 60, .inl v_a0_from)), (A_a0_to, .inl (G.2.1, 60, .inl v_a0_to)), (A_a0_much, .inl (G.2.1, 60, .inl v_a0_much))] H := hP
  have hD : va_D A [(A_a0, .inr (11, [.int v_a0_lands, .int v_a0_wide, .int v_a0_pace, .int v_a0_age, .int v_a0_slitM, .int v_a0_slitA, .int v_a0_slitB, .int v_a0_year, .ref A_a0_is, .ref A_a0_sightLand, .ref A_a0_sightYear, .ref A_a0_sightCovered, .int v_a0_sights, .ref A_a0_pad, .int v_a0_padMany, .ref A_a0_act, .ref A_a0_from, .ref A_a0_to, .ref A_a0_much, .int 0, .int v_a0_hungers, .ref A_a0_hungryIn, .ref A_a0_had, .int v_a0_hadYear, .int v_a0_badAct, .int v_a0_badWhy, .int v_a0_years, .ref A_a0_leaves, .int v_a0_yearThen, .ref A_a0_steps, .ref A_a0_nextSteps, .ref A_a0_waysTo, .ref A_a0_nextWays, .int v_a0_lawMany, .ref A_a0_covering, .ref A_a0_kept, .ref A_a0_isKept, .int v_a0_keptAt, .int v_a0_isWriting])), (A_a0_pad, .inl (G.2.1, 60, .inl v_a0_pad)), (A_a0_act, .inl (G.2.1, 60, .inl v_a0_act)), (A_a0_from, .inl (G.2.1, 60, .inl v_a0_from)), (A_a0_to, .inl (G.2.1, 60, .inl v_a0_to)), (A_a0_much, .inl (G.2.1, 60, .inl v_a0_much))] := hD
  refine lv_iconst (v := 0) hx hb dX11_fault_5 (by decide) ?_
  refine lv_istore_n (lv' := [(1, .int 0), (0, .ref A_a0)]) hx hb dX11_fault_6 rfl hl (by decide) rfl (fun ls hl => ?_)
  refine lv_iconst (v := 0) hx hb dX11_fault_7 (by decide) ?_
  refine lv_istore_n (lv' := [(2, .int 0), (1, .int 0), (0, .ref A_a0)]) hx hb dX11_fault_8 rfl hl (by decide) rfl (fun ls hl => ?_)
  obtain ⟨X83, hX83, h, hR83⟩ := rs_m6s h
  have J83 : ∀ (f84 : (Nat → Int32)) (f85 : (Nat → Int32)) (f86 : (Nat → Int32)) (f87 : (Nat → Int32)) (x88 : Int32) (x89 : Int32), X83 = .inl (f84, f85, f86, f87, x88, x89) → ∀  (H : Heap) (locs : List Loc) (ls : Array Slot), va_P G.1 vwCl [(A_a0, .inr (11, [.int v_a0_lands, .int v_a0_wide, .int v_a0_pace, .int v_a0_age, .int v_a0_slitM, .int v_a0_slitA, .int v_a0_slitB, .int v_a0_year, .ref A_a0_is, .ref A_a0_sightLand, .ref A_a0_sightYear, .ref A_a0_sightCovered, .int v_a0_sights, .ref A_a0_pad, .int v_a0_padMany, .ref A_a0_act, .ref A_a0_from, .ref A_a0_to, .ref A_a0_much, .int x88, .int v_a0_hungers, .ref A_a0_hungryIn, .ref A_a0_had, .int v_a0_hadYear, .int v_a0_badAct, .int v_a0_badWhy, .int v_a0_years, .ref A_a0_leaves, .int v_a0_yearThen, .ref A_a0_steps, .ref A_a0_nextSteps, .ref A_a0_waysTo, .ref A_a0_nextWays, .int v_a0_lawMany, .ref A_a0_covering, .ref A_a0_kept, .ref A_a0_isKept, .int v_a0_keptAt, .int v_a0_isWriting])), (A_a0_pad, .inl (G.2.1, 60, .inl v_a0_pad)), (A_a0_act, .inl (G.2.1, 60, .inl f84)), (A_a0_from, .inl (G.2.1, 60, .inl f85)), (A_a0_to, .inl (G.2.1, 60, .inl f86)), (A_a0_much, .inl (G.2.1, 60, .inl f87))] H → va_D A [(A_a0, .inr (11, [.int v_a0_lands, .int v_a0_wide, .int v_a0_pace, .int v_a0_age, .int v_a0_slitM, .int v_a0_slitA, .int v_a0_slitB, .int v_a0_year, .ref A_a0_is, .ref A_a0_sightLand, .ref A_a0_sightYear, .ref A_a0_sightCovered, .int v_a0_sights, .ref A_a0_pad, .int v_a0_padMany, .ref A_a0_act, .ref A_a0_from, .ref A_a0_to, .ref A_a0_much, .int x88, .int v_a0_hungers, .ref A_a0_hungryIn, .ref A_a0_had, .int v_a0_hadYear, .int v_a0_badAct, .int v_a0_badWhy, .int v_a0_years, .ref A_a0_leaves, .int v_a0_yearThen, .ref A_a0_steps, .ref A_a0_nextSteps, .ref A_a0_waysTo, .ref A_a0_nextWays, .int v_a0_lawMany, .ref A_a0_covering, .ref A_a0_kept, .ref A_a0_isKept, .int v_a0_keptAt, .int v_a0_isWriting])), (A_a0_pad, .inl (G.2.1, 60, .inl v_a0_pad)), (A_a0_act, .inl (G.2.1, 60, .inl f84)), (A_a0_from, .inl (G.2.1, 60, .inl f85)), (A_a0_to, .inl (G.2.1, 60, .inl f86)), (A_a0_much, .inl (G.2.1, 60, .inl f87))] → va_S A s.heap H locs → lv_has ls 6 [(0, .ref A_a0), (1, .int x89)] → W p l e rmX11_fault s m args below meth c H locs 0 0 Q (F0 m 240 ls []) := by
    intro f84 f85 f86 f87 x88 x89 hz  H locs ls hP hD hS hl
    have h := h _ _ _ _ _ _ hz
    refine lv_iload_n hx hb dX11_fault_240 rfl (lv_at hl 1 rfl) ?_
    refine lv_if_ne (tgt := 249) hx hb dX11_fault_241 (by decide) (fun hc => ?_) (fun hc => ?_)
    · have h := rs_neg hc h
      refine lv_aload_n hx hb dX11_fault_249 rfl (lv_at hl 0 rfl) ?_
      refine va_get (D := G.1) (ci := 11) (v := .int v_a0_padMany) (C := RX11) (T := TX11) (N := 39) hx hb hts uX11_fault_11 hown hK.1 hP 0 rfl rfl 14 (by decide) (hts (.fieldLink RX11 139 "RingShadowModel" "padMany" "I") (List.mem_of_getElem? (i := 2) rfl)) (fun _ h9 => h9) rfl dX11_fault_250 ?_
      exact ret _ _ _ _ _ _ () _ _ _ _ h hP hS dX11_fault_253 rfl
    have h := rs_pos hc h
    refine lv_bipush (v := (-6)) hx hb dX11_fault_244 (by decide) ?_
    refine lv_goto (tgt := 253) hx hb dX11_fault_246 (by decide) ?_
    exact ret _ _ _ _ _ _ () _ _ _ _ h hP hS dX11_fault_253 rfl
  refine rs_l7W (Wd := fun (f22 : (Nat → Int32)) (f23 : (Nat → Int32)) (f54 : (Nat → Int32)) (f55 : (Nat → Int32)) (x24 : Int32) (x25 : Int32) (x26 : Int32) => ∀  (H : Heap) (locs : List Loc) (ls : Array Slot), va_P G.1 vwCl [(A_a0, .inr (11, [.int v_a0_lands, .int v_a0_wide, .int v_a0_pace, .int v_a0_age, .int v_a0_slitM, .int v_a0_slitA, .int v_a0_slitB, .int v_a0_year, .ref A_a0_is, .ref A_a0_sightLand, .ref A_a0_sightYear, .ref A_a0_sightCovered, .int v_a0_sights, .ref A_a0_pad, .int v_a0_padMany, .ref A_a0_act, .ref A_a0_from, .ref A_a0_to, .ref A_a0_much, .int x24, .int v_a0_hungers, .ref A_a0_hungryIn, .ref A_a0_had, .int v_a0_hadYear, .int v_a0_badAct, .int v_a0_badWhy, .int v_a0_years, .ref A_a0_leaves, .int v_a0_yearThen, .ref A_a0_steps, .ref A_a0_nextSteps, .ref A_a0_waysTo, .ref A_a0_nextWays, .int v_a0_lawMany, .ref A_a0_covering, .ref A_a0_kept, .ref A_a0_isKept, .int v_a0_keptAt, .int v_a0_isWriting])), (A_a0_pad, .inl (G.2.1, 60, .inl v_a0_pad)), (A_a0_act, .inl (G.2.1, 60, .inl f22)), (A_a0_from, .inl (G.2.1, 60, .inl f23)), (A_a0_to, .inl (G.2.1, 60, .inl f54)), (A_a0_much, .inl (G.2.1, 60, .inl f55))] H → va_D A [(A_a0, .inr (11, [.int v_a0_lands, .int v_a0_wide, .int v_a0_pace, .int v_a0_age, .int v_a0_slitM, .int v_a0_slitA, .int v_a0_slitB, .int v_a0_year, .ref A_a0_is, .ref A_a0_sightLand, .ref A_a0_sightYear, .ref A_a0_sightCovered, .int v_a0_sights, .ref A_a0_pad, .int v_a0_padMany, .ref A_a0_act, .ref A_a0_from, .ref A_a0_to, .ref A_a0_much, .int x24, .int v_a0_hungers, .ref A_a0_hungryIn, .ref A_a0_had, .int v_a0_hadYear, .int v_a0_badAct, .int v_a0_badWhy, .int v_a0_years, .ref A_a0_leaves, .int v_a0_yearThen, .ref A_a0_steps, .ref A_a0_nextSteps, .ref A_a0_waysTo, .ref A_a0_nextWays, .int v_a0_lawMany, .ref A_a0_covering, .ref A_a0_kept, .ref A_a0_isKept, .int v_a0_keptAt, .int v_a0_isWriting])), (A_a0_pad, .inl (G.2.1, 60, .inl v_a0_pad)), (A_a0_act, .inl (G.2.1, 60, .inl f22)), (A_a0_from, .inl (G.2.1, 60, .inl f23)), (A_a0_to, .inl (G.2.1, 60, .inl f54)), (A_a0_much, .inl (G.2.1, 60, .inl f55))] → va_S A s.heap H locs → lv_has ls 6 [(0, .ref A_a0), (1, .int x25), (2, .int x26)] → W p l e rmX11_fault s m args below meth c H locs 0 0 Q (F0 m 9 ls [])) ?_ N v_a0_act v_a0_from v_a0_to v_a0_much 0 0 0 hX83 _ _ _ hP hD hS (lv_sub hl [2, 1, 0] rfl)
  intro f22 f23 f54 f55 x24 x25 x26 o83 h K83 L83  H locs ls hP hD hS hl
  unfold f_X11_fault_L9 at h
  refine lv_iload_n hx hb dX11_fault_9 rfl (lv_at hl 2 rfl) ?_
  refine lv_aload_n hx hb dX11_fault_10 rfl (lv_at hl 0 rfl) ?_
  refine va_get (D := G.1) (ci := 11) (v := .int v_a0_padMany) (C := RX11) (T := TX11) (N := 39) hx hb hts uX11_fault_11 hown hK.1 hP 0 rfl rfl 14 (by decide) (hts (.fieldLink RX11 139 "RingShadowModel" "padMany" "I") (List.mem_of_getElem? (i := 2) rfl)) (fun _ h9 => h9) rfl dX11_fault_11 ?_
  refine lv_icmp_ge (tgt := 240) hx hb dX11_fault_14 (by decide) (fun hc => ?_) (fun hc => ?_)
  · have h := rs_pos hc h
    exact J83 _ _ _ _ _ _ (L83 _ (Option.some.inj h).symm) _ _ _ hP hD hS (lv_sub hl [0, 1] rfl)
  have h := rs_neg hc h
  refine lv_aload_n hx hb dX11_fault_17 rfl (lv_at hl 0 rfl) ?_
  refine va_get (D := G.1) (ci := 11) (v := .ref A_a0_pad) (C := RX11) (T := TX11) (N := 39) hx hb hts uX11_fault_11 hown hK.1 hP 0 rfl rfl 13 (by decide) (hts (.fieldLink RX11 22 "RingShadowModel" "pad" "[I") (List.mem_of_getElem? (i := 3) rfl)) (fun _ h9 => h9) rfl dX11_fault_18 ?_
  refine lv_iload_n hx hb dX11_fault_21 rfl (lv_at hl 2 rfl) ?_
  obtain ⟨hg, h⟩ := rs_gd h
  refine va_iald hx hb hK.1 hP 1 0 rfl rfl hg dX11_fault_22 ?_
  refine rs_topi h (fun x90 h => ?_)
  refine lv_istore_n (lv' := [(3, .int x90), (0, .ref A_a0), (1, .int x25), (2, .int x26)]) hx hb dX11_fault_23 rfl hl (by decide) rfl (fun ls hl => ?_)
  refine lv_iload_n hx hb dX11_fault_24 rfl (lv_at hl 2 rfl) ?_
  obtain ⟨X92, hX92, h⟩ := rs_b1s h
  have J92 : ∀ (x91 : Int32), X92 = x91 → ∀ (H : Heap) (locs : List Loc) (ls : Array Slot), va_P G.1 vwCl [(A_a0, .inr (11, [.int v_a0_lands, .int v_a0_wide, .int v_a0_pace, .int v_a0_age, .int v_a0_slitM, .int v_a0_slitA, .int v_a0_slitB, .int v_a0_year, .ref A_a0_is, .ref A_a0_sightLand, .ref A_a0_sightYear, .ref A_a0_sightCovered, .int v_a0_sights, .ref A_a0_pad, .int v_a0_padMany, .ref A_a0_act, .ref A_a0_from, .ref A_a0_to, .ref A_a0_much, .int x24, .int v_a0_hungers, .ref A_a0_hungryIn, .ref A_a0_had, .int v_a0_hadYear, .int v_a0_badAct, .int v_a0_badWhy, .int v_a0_years, .ref A_a0_leaves, .int v_a0_yearThen, .ref A_a0_steps, .ref A_a0_nextSteps, .ref A_a0_waysTo, .ref A_a0_nextWays, .int v_a0_lawMany, .ref A_a0_covering, .ref A_a0_kept, .ref A_a0_isKept, .int v_a0_keptAt, .int v_a0_isWriting])), (A_a0_pad, .inl (G.2.1, 60, .inl v_a0_pad)), (A_a0_act, .inl (G.2.1, 60, .inl f22)), (A_a0_from, .inl (G.2.1, 60, .inl f23)), (A_a0_to, .inl (G.2.1, 60, .inl f54)), (A_a0_much, .inl (G.2.1, 60, .inl f55))] H → va_D A [(A_a0, .inr (11, [.int v_a0_lands, .int v_a0_wide, .int v_a0_pace, .int v_a0_age, .int v_a0_slitM, .int v_a0_slitA, .int v_a0_slitB, .int v_a0_year, .ref A_a0_is, .ref A_a0_sightLand, .ref A_a0_sightYear, .ref A_a0_sightCovered, .int v_a0_sights, .ref A_a0_pad, .int v_a0_padMany, .ref A_a0_act, .ref A_a0_from, .ref A_a0_to, .ref A_a0_much, .int x24, .int v_a0_hungers, .ref A_a0_hungryIn, .ref A_a0_had, .int v_a0_hadYear, .int v_a0_badAct, .int v_a0_badWhy, .int v_a0_years, .ref A_a0_leaves, .int v_a0_yearThen, .ref A_a0_steps, .ref A_a0_nextSteps, .ref A_a0_waysTo, .ref A_a0_nextWays, .int v_a0_lawMany, .ref A_a0_covering, .ref A_a0_kept, .ref A_a0_isKept, .int v_a0_keptAt, .int v_a0_isWriting])), (A_a0_pad, .inl (G.2.1, 60, .inl v_a0_pad)), (A_a0_act, .inl (G.2.1, 60, .inl f22)), (A_a0_from, .inl (G.2.1, 60, .inl f23)), (A_a0_to, .inl (G.2.1, 60, .inl f54)), (A_a0_much, .inl (G.2.1, 60, .inl f55))] → va_S A s.heap H locs → lv_has ls 6 [(0, .ref A_a0), (1, .int x25), (2, .int x26), (3, .int x90)] → W p l e rmX11_fault s m args below meth c H locs 0 0 Q (F0 m 45 ls [.int x91]) := by
    intro x91 hz H locs ls hP hD hS hl
    have h := h _ hz
    refine lv_istore (lv' := [(4, .int x91), (0, .ref A_a0), (1, .int x25), (2, .int x26), (3, .int x90)]) hx hb dX11_fault_45 hl (by decide) rfl (fun ls hl => ?_)
    refine lv_iload hx hb dX11_fault_47 (lv_at hl 0 rfl) ?_
    obtain ⟨X98, hX98, h⟩ := rs_b1s h
    have J98 : ∀ (x97 : Int32), X98 = x97 → ∀ (H : Heap) (locs : List Loc) (ls : Array Slot), va_P G.1 vwCl [(A_a0, .inr (11, [.int v_a0_lands, .int v_a0_wide, .int v_a0_pace, .int v_a0_age, .int v_a0_slitM, .int v_a0_slitA, .int v_a0_slitB, .int v_a0_year, .ref A_a0_is, .ref A_a0_sightLand, .ref A_a0_sightYear, .ref A_a0_sightCovered, .int v_a0_sights, .ref A_a0_pad, .int v_a0_padMany, .ref A_a0_act, .ref A_a0_from, .ref A_a0_to, .ref A_a0_much, .int x24, .int v_a0_hungers, .ref A_a0_hungryIn, .ref A_a0_had, .int v_a0_hadYear, .int v_a0_badAct, .int v_a0_badWhy, .int v_a0_years, .ref A_a0_leaves, .int v_a0_yearThen, .ref A_a0_steps, .ref A_a0_nextSteps, .ref A_a0_waysTo, .ref A_a0_nextWays, .int v_a0_lawMany, .ref A_a0_covering, .ref A_a0_kept, .ref A_a0_isKept, .int v_a0_keptAt, .int v_a0_isWriting])), (A_a0_pad, .inl (G.2.1, 60, .inl v_a0_pad)), (A_a0_act, .inl (G.2.1, 60, .inl f22)), (A_a0_from, .inl (G.2.1, 60, .inl f23)), (A_a0_to, .inl (G.2.1, 60, .inl f54)), (A_a0_much, .inl (G.2.1, 60, .inl f55))] H → va_D A [(A_a0, .inr (11, [.int v_a0_lands, .int v_a0_wide, .int v_a0_pace, .int v_a0_age, .int v_a0_slitM, .int v_a0_slitA, .int v_a0_slitB, .int v_a0_year, .ref A_a0_is, .ref A_a0_sightLand, .ref A_a0_sightYear, .ref A_a0_sightCovered, .int v_a0_sights, .ref A_a0_pad, .int v_a0_padMany, .ref A_a0_act, .ref A_a0_from, .ref A_a0_to, .ref A_a0_much, .int x24, .int v_a0_hungers, .ref A_a0_hungryIn, .ref A_a0_had, .int v_a0_hadYear, .int v_a0_badAct, .int v_a0_badWhy, .int v_a0_years, .ref A_a0_leaves, .int v_a0_yearThen, .ref A_a0_steps, .ref A_a0_nextSteps, .ref A_a0_waysTo, .ref A_a0_nextWays, .int v_a0_lawMany, .ref A_a0_covering, .ref A_a0_kept, .ref A_a0_isKept, .int v_a0_keptAt, .int v_a0_isWriting])), (A_a0_pad, .inl (G.2.1, 60, .inl v_a0_pad)), (A_a0_act, .inl (G.2.1, 60, .inl f22)), (A_a0_from, .inl (G.2.1, 60, .inl f23)), (A_a0_to, .inl (G.2.1, 60, .inl f54)), (A_a0_much, .inl (G.2.1, 60, .inl f55))] → va_S A s.heap H locs → lv_has ls 6 [(0, .ref A_a0), (1, .int x25), (2, .int x26), (3, .int x90), (4, .int x91)] → W p l e rmX11_fault s m args below meth c H locs 0 0 Q (F0 m 90 ls [.int x97]) := by
      intro x97 hz H locs ls hP hD hS hl
      have h := h _ hz
      refine lv_istore (lv' := [(5, .int x97), (0, .ref A_a0), (1, .int x25), (2, .int x26), (3, .int x90), (4, .int x91)]) hx hb dX11_fault_90 hl (by decide) rfl (fun ls hl => ?_)
      refine lv_iload hx hb dX11_fault_92 (lv_at hl 0 rfl) ?_
      refine lv_if_ne (tgt := 99) hx hb dX11_fault_94 (by decide) (fun hc => ?_) (fun hc => ?_)
      · have h := rs_neg hc h
        refine lv_iload hx hb dX11_fault_99 (lv_at hl 5 rfl) ?_
        obtain ⟨X105, hX105, h⟩ := rs_b4s h
        have J105 : ∀ (f101 : (Nat → Int32)) (f102 : (Nat → Int32)) (f103 : (Nat → Int32)) (f104 : (Nat → Int32)), X105 = (f101, f102, f103, f104) → ∀ (H : Heap) (locs : List Loc) (ls : Array Slot), va_P G.1 vwCl [(A_a0, .inr (11, [.int v_a0_lands, .int v_a0_wide, .int v_a0_pace, .int v_a0_age, .int v_a0_slitM, .int v_a0_slitA, .int v_a0_slitB, .int v_a0_year, .ref A_a0_is, .ref A_a0_sightLand, .ref A_a0_sightYear, .ref A_a0_sightCovered, .int v_a0_sights, .ref A_a0_pad, .int v_a0_padMany, .ref A_a0_act, .ref A_a0_from, .ref A_a0_to, .ref A_a0_much, .int x24, .int v_a0_hungers, .ref A_a0_hungryIn, .ref A_a0_had, .int v_a0_hadYear, .int v_a0_badAct, .int v_a0_badWhy, .int v_a0_years, .ref A_a0_leaves, .int v_a0_yearThen, .ref A_a0_steps, .ref A_a0_nextSteps, .ref A_a0_waysTo, .ref A_a0_nextWays, .int v_a0_lawMany, .ref A_a0_covering, .ref A_a0_kept, .ref A_a0_isKept, .int v_a0_keptAt, .int v_a0_isWriting])), (A_a0_pad, .inl (G.2.1, 60, .inl v_a0_pad)), (A_a0_act, .inl (G.2.1, 60, .inl f101)), (A_a0_from, .inl (G.2.1, 60, .inl f102)), (A_a0_to, .inl (G.2.1, 60, .inl f103)), (A_a0_much, .inl (G.2.1, 60, .inl f104))] H → va_D A [(A_a0, .inr (11, [.int v_a0_lands, .int v_a0_wide, .int v_a0_pace, .int v_a0_age, .int v_a0_slitM, .int v_a0_slitA, .int v_a0_slitB, .int v_a0_year, .ref A_a0_is, .ref A_a0_sightLand, .ref A_a0_sightYear, .ref A_a0_sightCovered, .int v_a0_sights, .ref A_a0_pad, .int v_a0_padMany, .ref A_a0_act, .ref A_a0_from, .ref A_a0_to, .ref A_a0_much, .int x24, .int v_a0_hungers, .ref A_a0_hungryIn, .ref A_a0_had, .int v_a0_hadYear, .int v_a0_badAct, .int v_a0_badWhy, .int v_a0_years, .ref A_a0_leaves, .int v_a0_yearThen, .ref A_a0_steps, .ref A_a0_nextSteps, .ref A_a0_waysTo, .ref A_a0_nextWays, .int v_a0_lawMany, .ref A_a0_covering, .ref A_a0_kept, .ref A_a0_isKept, .int v_a0_keptAt, .int v_a0_isWriting])), (A_a0_pad, .inl (G.2.1, 60, .inl v_a0_pad)), (A_a0_act, .inl (G.2.1, 60, .inl f101)), (A_a0_from, .inl (G.2.1, 60, .inl f102)), (A_a0_to, .inl (G.2.1, 60, .inl f103)), (A_a0_much, .inl (G.2.1, 60, .inl f104))] → va_S A s.heap H locs → lv_has ls 6 [(0, .ref A_a0), (1, .int x25), (2, .int x26), (4, .int x91)] → W p l e rmX11_fault s m args below meth c H locs 0 0 Q (F0 m 192 ls []) := by
          intro f101 f102 f103 f104 hz H locs ls hP hD hS hl
          have h := h _ _ _ _ hz
          refine lv_aload_n hx hb dX11_fault_192 rfl (lv_at hl 0 rfl) ?_
          refine lv_dup hx hb dX11_fault_193 rfl ?_
          refine va_get (D := G.1) (ci := 11) (v := .int x24) (C := RX11) (T := TX11) (N := 39) hx hb hts uX11_fault_11 hown hK.1 hP 0 rfl rfl 19 (by decide) (hts (.fieldLink RX11 142 "RingShadowModel" "acts" "I") (List.mem_of_getElem? (i := 1) rfl)) (fun _ h9 => h9) rfl dX11_fault_194 ?_
          refine lv_iload hx hb dX11_fault_197 (lv_at hl 3 rfl) ?_
          obtain ⟨X107, hX107, h⟩ := rs_b1s h
          have J107 : ∀ (x106 : Int32), X107 = x106 → ∀ (H : Heap) (locs : List Loc) (ls : Array Slot), va_P G.1 vwCl [(A_a0, .inr (11, [.int v_a0_lands, .int v_a0_wide, .int v_a0_pace, .int v_a0_age, .int v_a0_slitM, .int v_a0_slitA, .int v_a0_slitB, .int v_a0_year, .ref A_a0_is, .ref A_a0_sightLand, .ref A_a0_sightYear, .ref A_a0_sightCovered, .int v_a0_sights, .ref A_a0_pad, .int v_a0_padMany, .ref A_a0_act, .ref A_a0_from, .ref A_a0_to, .ref A_a0_much, .int x24, .int v_a0_hungers, .ref A_a0_hungryIn, .ref A_a0_had, .int v_a0_hadYear, .int v_a0_badAct, .int v_a0_badWhy, .int v_a0_years, .ref A_a0_leaves, .int v_a0_yearThen, .ref A_a0_steps, .ref A_a0_nextSteps, .ref A_a0_waysTo, .ref A_a0_nextWays, .int v_a0_lawMany, .ref A_a0_covering, .ref A_a0_kept, .ref A_a0_isKept, .int v_a0_keptAt, .int v_a0_isWriting])), (A_a0_pad, .inl (G.2.1, 60, .inl v_a0_pad)), (A_a0_act, .inl (G.2.1, 60, .inl f101)), (A_a0_from, .inl (G.2.1, 60, .inl f102)), (A_a0_to, .inl (G.2.1, 60, .inl f103)), (A_a0_much, .inl (G.2.1, 60, .inl f104))] H → va_D A [(A_a0, .inr (11, [.int v_a0_lands, .int v_a0_wide, .int v_a0_pace, .int v_a0_age, .int v_a0_slitM, .int v_a0_slitA, .int v_a0_slitB, .int v_a0_year, .ref A_a0_is, .ref A_a0_sightLand, .ref A_a0_sightYear, .ref A_a0_sightCovered, .int v_a0_sights, .ref A_a0_pad, .int v_a0_padMany, .ref A_a0_act, .ref A_a0_from, .ref A_a0_to, .ref A_a0_much, .int x24, .int v_a0_hungers, .ref A_a0_hungryIn, .ref A_a0_had, .int v_a0_hadYear, .int v_a0_badAct, .int v_a0_badWhy, .int v_a0_years, .ref A_a0_leaves, .int v_a0_yearThen, .ref A_a0_steps, .ref A_a0_nextSteps, .ref A_a0_waysTo, .ref A_a0_nextWays, .int v_a0_lawMany, .ref A_a0_covering, .ref A_a0_kept, .ref A_a0_isKept, .int v_a0_keptAt, .int v_a0_isWriting])), (A_a0_pad, .inl (G.2.1, 60, .inl v_a0_pad)), (A_a0_act, .inl (G.2.1, 60, .inl f101)), (A_a0_from, .inl (G.2.1, 60, .inl f102)), (A_a0_to, .inl (G.2.1, 60, .inl f103)), (A_a0_much, .inl (G.2.1, 60, .inl f104))] → va_S A s.heap H locs → lv_has ls 6 [(0, .ref A_a0), (1, .int x25), (2, .int x26), (4, .int x91)] → W p l e rmX11_fault s m args below meth c H locs 0 0 Q (F0 m 212 ls [.int x106, .int x24, .ref A_a0]) := by
            intro x106 hz H locs ls hP hD hS hl
            have h := h _ hz
            refine lv_iadd hx hb dX11_fault_212 ?_
            refine rs_topi h (fun x108 h => ?_)
            refine va_put (D := G.1) (ci := 11) (v := .int x108) (ty := .int) (C := RX11) (T := TX11) (N := 39) hx hb hts uX11_fault_11 tyX11 tyX11_ok nmX11 hown hK.1 hP hD hS 0 rfl rfl 19 (by decide) (hts (.fieldLink RX11 142 "RingShadowModel" "acts" "I") (List.mem_of_getElem? (i := 1) rfl)) (fun _ h9 => h9) rfl (by decide +kernel) rfl rfl (Nat.le_of_ble_eq_true rfl) dX11_fault_213 (fun H locs hP hD hS => ?_)
            have hP : va_P G.1 vwCl [(A_a0, .inr (11, [.int v_a0_lands, .int v_a0_wide, .int v_a0_pace, .int v_a0_age, .int v_a0_slitM, .int v_a0_slitA, .int v_a0_slitB, .int v_a0_year, .ref A_a0_is, .ref A_a0_sightLand, .ref A_a0_sightYear, .ref A_a0_sightCovered, .int v_a0_sights, .ref A_a0_pad, .int v_a0_padMany, .ref A_a0_act, .ref A_a0_from, .ref A_a0_to, .ref A_a0_much, .int x108, .int v_a0_hungers, .ref A_a0_hungryIn, .ref A_a0_had, .int v_a0_hadYear, .int v_a0_badAct, .int v_a0_badWhy, .int v_a0_years, .ref A_a0_leaves, .int v_a0_yearThen, .ref A_a0_steps, .ref A_a0_nextSteps, .ref A_a0_waysTo, .ref A_a0_nextWays, .int v_a0_lawMany, .ref A_a0_covering, .ref A_a0_kept, .ref A_a0_isKept, .int v_a0_keptAt, .int v_a0_isWriting])), (A_a0_pad, .inl (G.2.1, 60, .inl v_a0_pad)), (A_a0_act, .inl (G.2.1, 60, .inl f101)), (A_a0_from, .inl (G.2.1, 60, .inl f102)), (A_a0_to, .inl (G.2.1, 60, .inl f103)), (A_a0_much, .inl (G.2.1, 60, .inl f104))] H := hP
            have hD : va_D A [(A_a0, .inr (11, [.int v_a0_lands, .int v_a0_wide, .int v_a0_pace, .int v_a0_age, .int v_a0_slitM, .int v_a0_slitA, .int v_a0_slitB, .int v_a0_year, .ref A_a0_is, .ref A_a0_sightLand, .ref A_a0_sightYear, .ref A_a0_sightCovered, .int v_a0_sights, .ref A_a0_pad, .int v_a0_padMany, .ref A_a0_act, .ref A_a0_from, .ref A_a0_to, .ref A_a0_much, .int x108, .int v_a0_hungers, .ref A_a0_hungryIn, .ref A_a0_had, .int v_a0_hadYear, .int v_a0_badAct, .int v_a0_badWhy, .int v_a0_years, .ref A_a0_leaves, .int v_a0_yearThen, .ref A_a0_steps, .ref A_a0_nextSteps, .ref A_a0_waysTo, .ref A_a0_nextWays, .int v_a0_lawMany, .ref A_a0_covering, .ref A_a0_kept, .ref A_a0_isKept, .int v_a0_keptAt, .int v_a0_isWriting])), (A_a0_pad, .inl (G.2.1, 60, .inl v_a0_pad)), (A_a0_act, .inl (G.2.1, 60, .inl f101)), (A_a0_from, .inl (G.2.1, 60, .inl f102)), (A_a0_to, .inl (G.2.1, 60, .inl f103)), (A_a0_much, .inl (G.2.1, 60, .inl f104))] := hD
            refine lv_iload hx hb dX11_fault_216 (lv_at hl 3 rfl) ?_
            obtain ⟨X110, hX110, h⟩ := rs_b1s h
            have J110 : ∀ (x109 : Int32), X110 = x109 → ∀ (H : Heap) (locs : List Loc) (ls : Array Slot), va_P G.1 vwCl [(A_a0, .inr (11, [.int v_a0_lands, .int v_a0_wide, .int v_a0_pace, .int v_a0_age, .int v_a0_slitM, .int v_a0_slitA, .int v_a0_slitB, .int v_a0_year, .ref A_a0_is, .ref A_a0_sightLand, .ref A_a0_sightYear, .ref A_a0_sightCovered, .int v_a0_sights, .ref A_a0_pad, .int v_a0_padMany, .ref A_a0_act, .ref A_a0_from, .ref A_a0_to, .ref A_a0_much, .int x108, .int v_a0_hungers, .ref A_a0_hungryIn, .ref A_a0_had, .int v_a0_hadYear, .int v_a0_badAct, .int v_a0_badWhy, .int v_a0_years, .ref A_a0_leaves, .int v_a0_yearThen, .ref A_a0_steps, .ref A_a0_nextSteps, .ref A_a0_waysTo, .ref A_a0_nextWays, .int v_a0_lawMany, .ref A_a0_covering, .ref A_a0_kept, .ref A_a0_isKept, .int v_a0_keptAt, .int v_a0_isWriting])), (A_a0_pad, .inl (G.2.1, 60, .inl v_a0_pad)), (A_a0_act, .inl (G.2.1, 60, .inl f101)), (A_a0_from, .inl (G.2.1, 60, .inl f102)), (A_a0_to, .inl (G.2.1, 60, .inl f103)), (A_a0_much, .inl (G.2.1, 60, .inl f104))] H → va_D A [(A_a0, .inr (11, [.int v_a0_lands, .int v_a0_wide, .int v_a0_pace, .int v_a0_age, .int v_a0_slitM, .int v_a0_slitA, .int v_a0_slitB, .int v_a0_year, .ref A_a0_is, .ref A_a0_sightLand, .ref A_a0_sightYear, .ref A_a0_sightCovered, .int v_a0_sights, .ref A_a0_pad, .int v_a0_padMany, .ref A_a0_act, .ref A_a0_from, .ref A_a0_to, .ref A_a0_much, .int x108, .int v_a0_hungers, .ref A_a0_hungryIn, .ref A_a0_had, .int v_a0_hadYear, .int v_a0_badAct, .int v_a0_badWhy, .int v_a0_years, .ref A_a0_leaves, .int v_a0_yearThen, .ref A_a0_steps, .ref A_a0_nextSteps, .ref A_a0_waysTo, .ref A_a0_nextWays, .int v_a0_lawMany, .ref A_a0_covering, .ref A_a0_kept, .ref A_a0_isKept, .int v_a0_keptAt, .int v_a0_isWriting])), (A_a0_pad, .inl (G.2.1, 60, .inl v_a0_pad)), (A_a0_act, .inl (G.2.1, 60, .inl f101)), (A_a0_from, .inl (G.2.1, 60, .inl f102)), (A_a0_to, .inl (G.2.1, 60, .inl f103)), (A_a0_much, .inl (G.2.1, 60, .inl f104))] → va_S A s.heap H locs → lv_has ls 6 [(0, .ref A_a0), (2, .int x26)] → W p l e rmX11_fault s m args below meth c H locs 0 0 Q (F0 m 233 ls [.int x109]) := by
              intro x109 hz H locs ls hP hD hS hl
              have h := h _ hz
              refine lv_istore_n (lv' := [(1, .int x109), (0, .ref A_a0), (2, .int x26)]) hx hb dX11_fault_233 rfl hl (by decide) rfl (fun ls hl => ?_)
              refine lv_iinc (v := (x26 + 1)) (lv' := [(2, .int (x26 + 1)), (1, .int x109), (0, .ref A_a0)]) hx hb dX11_fault_234 hl (k := 2) rfl (by first | rfl | decide) (by decide) rfl (fun ls hl => ?_)
              refine lv_goto (tgt := 9) hx hb dX11_fault_237 (by decide) ?_
              exact K83 _ _ _ _ _ _ _ (Option.some.inj h).symm _ _ _ hP hD hS (lv_sub hl [2, 1, 0] rfl)
            have h := hX110
            refine lv_if_ne (tgt := 226) hx hb dX11_fault_218 (by decide) (fun hc => ?_) (fun hc => ?_)
            · have h := rs_neg hc h
              refine lv_iconst (v := 0) hx hb dX11_fault_226 (by decide) ?_
              refine lv_goto (tgt := 233) hx hb dX11_fault_227 (by decide) ?_
              exact J110 _ (Option.some.inj h).symm _ _ _ hP hD hS (lv_sub hl [0, 2] rfl)
            have h := rs_pos hc h
            refine lv_iload_n hx hb dX11_fault_221 rfl (lv_at hl 1 rfl) ?_
            refine lv_iconst (v := 2) hx hb dX11_fault_222 (by decide) ?_
            refine lv_icmp_ne (tgt := 230) hx hb dX11_fault_223 (by decide) (fun hc => ?_) (fun hc => ?_)
            · have h := rs_neg hc h
              refine lv_iload_n hx hb dX11_fault_230 rfl (lv_at hl 1 rfl) ?_
              refine lv_iconst (v := 1) hx hb dX11_fault_231 (by decide) ?_
              refine lv_iadd hx hb dX11_fault_232 ?_
              exact J110 _ (Option.some.inj h).symm _ _ _ hP hD hS (lv_sub hl [0, 2] rfl)
            have h := rs_pos hc h
            refine lv_iconst (v := 0) hx hb dX11_fault_226 (by decide) ?_
            refine lv_goto (tgt := 233) hx hb dX11_fault_227 (by decide) ?_
            exact J110 _ (Option.some.inj h).symm _ _ _ hP hD hS (lv_sub hl [0, 2] rfl)
          have h := hX107
          refine lv_if_ne (tgt := 207) hx hb dX11_fault_199 (by decide) (fun hc => ?_) (fun hc => ?_)
          · have h := rs_neg hc h
            refine lv_iconst (v := 1) hx hb dX11_fault_207 (by decide) ?_
            refine lv_goto (tgt := 212) hx hb dX11_fault_208 (by decide) ?_
            exact J107 _ (Option.some.inj h).symm _ _ _ hP hD hS (lv_sub hl [0, 1, 2, 3] rfl)
          have h := rs_pos hc h
          refine lv_iload_n hx hb dX11_fault_202 rfl (lv_at hl 1 rfl) ?_
          refine lv_iconst (v := 2) hx hb dX11_fault_203 (by decide) ?_
          refine lv_icmp_ne (tgt := 211) hx hb dX11_fault_204 (by decide) (fun hc => ?_) (fun hc => ?_)
          · have h := rs_neg hc h
            refine lv_iconst (v := 0) hx hb dX11_fault_211 (by decide) ?_
            exact J107 _ (Option.some.inj h).symm _ _ _ hP hD hS (lv_sub hl [0, 1, 2, 3] rfl)
          have h := rs_pos hc h
          refine lv_iconst (v := 1) hx hb dX11_fault_207 (by decide) ?_
          refine lv_goto (tgt := 212) hx hb dX11_fault_208 (by decide) ?_
          exact J107 _ (Option.some.inj h).symm _ _ _ hP hD hS (lv_sub hl [0, 1, 2, 3] rfl)
        have h := hX105
        refine lv_if_eq (tgt := 128) hx hb dX11_fault_101 (by decide) (fun hc => ?_) (fun hc => ?_)
        · have h := rs_pos hc h
          refine lv_iload_n hx hb dX11_fault_128 rfl (lv_at hl 2 rfl) ?_
          refine lv_if_ne (tgt := 148) hx hb dX11_fault_129 (by decide) (fun hc => ?_) (fun hc => ?_)
          · have h := rs_neg hc h
            refine lv_iload_n hx hb dX11_fault_148 rfl (lv_at hl 2 rfl) ?_
            refine lv_iconst (v := 1) hx hb dX11_fault_149 (by decide) ?_
            refine lv_icmp_ne (tgt := 169) hx hb dX11_fault_150 (by decide) (fun hc => ?_) (fun hc => ?_)
            · have h := rs_neg hc h
              refine lv_aload_n hx hb dX11_fault_169 rfl (lv_at hl 1 rfl) ?_
              refine va_get (D := G.1) (ci := 11) (v := .ref A_a0_act) (C := RX11) (T := TX11) (N := 39) hx hb hts uX11_fault_11 hown hK.1 hP 0 rfl rfl 15 (by decide) (hts (.fieldLink RX11 25 "RingShadowModel" "act" "[I") (List.mem_of_getElem? (i := 6) rfl)) (fun _ h9 => h9) rfl dX11_fault_170 ?_
              refine lv_aload_n hx hb dX11_fault_173 rfl (lv_at hl 1 rfl) ?_
              refine va_get (D := G.1) (ci := 11) (v := .int x24) (C := RX11) (T := TX11) (N := 39) hx hb hts uX11_fault_11 hown hK.1 hP 0 rfl rfl 19 (by decide) (hts (.fieldLink RX11 142 "RingShadowModel" "acts" "I") (List.mem_of_getElem? (i := 1) rfl)) (fun _ h9 => h9) rfl dX11_fault_174 ?_
              refine lv_iconst (v := 0) hx hb dX11_fault_177 (by decide) ?_
              obtain ⟨hg, h⟩ := rs_gd h
              refine va_iast hx hb hK.1 hP hD hS 2 0 rfl rfl hg dX11_fault_178 (fun H locs hP hD hS => ?_)
              have hP : va_P G.1 vwCl [(A_a0, .inr (11, [.int v_a0_lands, .int v_a0_wide, .int v_a0_pace, .int v_a0_age, .int v_a0_slitM, .int v_a0_slitA, .int v_a0_slitB, .int v_a0_year, .ref A_a0_is, .ref A_a0_sightLand, .ref A_a0_sightYear, .ref A_a0_sightCovered, .int v_a0_sights, .ref A_a0_pad, .int v_a0_padMany, .ref A_a0_act, .ref A_a0_from, .ref A_a0_to, .ref A_a0_much, .int x24, .int v_a0_hungers, .ref A_a0_hungryIn, .ref A_a0_had, .int v_a0_hadYear, .int v_a0_badAct, .int v_a0_badWhy, .int v_a0_years, .ref A_a0_leaves, .int v_a0_yearThen, .ref A_a0_steps, .ref A_a0_nextSteps, .ref A_a0_waysTo, .ref A_a0_nextWays, .int v_a0_lawMany, .ref A_a0_covering, .ref A_a0_kept, .ref A_a0_isKept, .int v_a0_keptAt, .int v_a0_isWriting])), (A_a0_pad, .inl (G.2.1, 60, .inl v_a0_pad)), (A_a0_act, .inl (G.2.1, 60, .inl (upd f22 x24.toNatClampNeg 0))), (A_a0_from, .inl (G.2.1, 60, .inl f23)), (A_a0_to, .inl (G.2.1, 60, .inl f54)), (A_a0_much, .inl (G.2.1, 60, .inl f55))] H := hP
              have hD : va_D A [(A_a0, .inr (11, [.int v_a0_lands, .int v_a0_wide, .int v_a0_pace, .int v_a0_age, .int v_a0_slitM, .int v_a0_slitA, .int v_a0_slitB, .int v_a0_year, .ref A_a0_is, .ref A_a0_sightLand, .ref A_a0_sightYear, .ref A_a0_sightCovered, .int v_a0_sights, .ref A_a0_pad, .int v_a0_padMany, .ref A_a0_act, .ref A_a0_from, .ref A_a0_to, .ref A_a0_much, .int x24, .int v_a0_hungers, .ref A_a0_hungryIn, .ref A_a0_had, .int v_a0_hadYear, .int v_a0_badAct, .int v_a0_badWhy, .int v_a0_years, .ref A_a0_leaves, .int v_a0_yearThen, .ref A_a0_steps, .ref A_a0_nextSteps, .ref A_a0_waysTo, .ref A_a0_nextWays, .int v_a0_lawMany, .ref A_a0_covering, .ref A_a0_kept, .ref A_a0_isKept, .int v_a0_keptAt, .int v_a0_isWriting])), (A_a0_pad, .inl (G.2.1, 60, .inl v_a0_pad)), (A_a0_act, .inl (G.2.1, 60, .inl (upd f22 x24.toNatClampNeg 0))), (A_a0_from, .inl (G.2.1, 60, .inl f23)), (A_a0_to, .inl (G.2.1, 60, .inl f54)), (A_a0_much, .inl (G.2.1, 60, .inl f55))] := hD
              refine lv_aload_n hx hb dX11_fault_179 rfl (lv_at hl 1 rfl) ?_
              refine va_get (D := G.1) (ci := 11) (v := .ref A_a0_much) (C := RX11) (T := TX11) (N := 39) hx hb hts uX11_fault_11 hown hK.1 hP 0 rfl rfl 18 (by decide) (hts (.fieldLink RX11 34 "RingShadowModel" "much" "[I") (List.mem_of_getElem? (i := 9) rfl)) (fun _ h9 => h9) rfl dX11_fault_180 ?_
              refine lv_aload_n hx hb dX11_fault_183 rfl (lv_at hl 1 rfl) ?_
              refine va_get (D := G.1) (ci := 11) (v := .int x24) (C := RX11) (T := TX11) (N := 39) hx hb hts uX11_fault_11 hown hK.1 hP 0 rfl rfl 19 (by decide) (hts (.fieldLink RX11 142 "RingShadowModel" "acts" "I") (List.mem_of_getElem? (i := 1) rfl)) (fun _ h9 => h9) rfl dX11_fault_184 ?_
              refine lv_iload_n hx hb dX11_fault_187 rfl (lv_at hl 4 rfl) ?_
              refine lv_bipush (v := 48) hx hb dX11_fault_188 (by decide) ?_
              refine lv_isub hx hb dX11_fault_190 ?_
              obtain ⟨hg, h⟩ := rs_gd h
              refine va_iast hx hb hK.1 hP hD hS 5 0 rfl rfl hg dX11_fault_191 (fun H locs hP hD hS => ?_)
              have hP : va_P G.1 vwCl [(A_a0, .inr (11, [.int v_a0_lands, .int v_a0_wide, .int v_a0_pace, .int v_a0_age, .int v_a0_slitM, .int v_a0_slitA, .int v_a0_slitB, .int v_a0_year, .ref A_a0_is, .ref A_a0_sightLand, .ref A_a0_sightYear, .ref A_a0_sightCovered, .int v_a0_sights, .ref A_a0_pad, .int v_a0_padMany, .ref A_a0_act, .ref A_a0_from, .ref A_a0_to, .ref A_a0_much, .int x24, .int v_a0_hungers, .ref A_a0_hungryIn, .ref A_a0_had, .int v_a0_hadYear, .int v_a0_badAct, .int v_a0_badWhy, .int v_a0_years, .ref A_a0_leaves, .int v_a0_yearThen, .ref A_a0_steps, .ref A_a0_nextSteps, .ref A_a0_waysTo, .ref A_a0_nextWays, .int v_a0_lawMany, .ref A_a0_covering, .ref A_a0_kept, .ref A_a0_isKept, .int v_a0_keptAt, .int v_a0_isWriting])), (A_a0_pad, .inl (G.2.1, 60, .inl v_a0_pad)), (A_a0_act, .inl (G.2.1, 60, .inl (upd f22 x24.toNatClampNeg 0))), (A_a0_from, .inl (G.2.1, 60, .inl f23)), (A_a0_to, .inl (G.2.1, 60, .inl f54)), (A_a0_much, .inl (G.2.1, 60, .inl (upd f55 x24.toNatClampNeg (x90 - 48))))] H := hP
              have hD : va_D A [(A_a0, .inr (11, [.int v_a0_lands, .int v_a0_wide, .int v_a0_pace, .int v_a0_age, .int v_a0_slitM, .int v_a0_slitA, .int v_a0_slitB, .int v_a0_year, .ref A_a0_is, .ref A_a0_sightLand, .ref A_a0_sightYear, .ref A_a0_sightCovered, .int v_a0_sights, .ref A_a0_pad, .int v_a0_padMany, .ref A_a0_act, .ref A_a0_from, .ref A_a0_to, .ref A_a0_much, .int x24, .int v_a0_hungers, .ref A_a0_hungryIn, .ref A_a0_had, .int v_a0_hadYear, .int v_a0_badAct, .int v_a0_badWhy, .int v_a0_years, .ref A_a0_leaves, .int v_a0_yearThen, .ref A_a0_steps, .ref A_a0_nextSteps, .ref A_a0_waysTo, .ref A_a0_nextWays, .int v_a0_lawMany, .ref A_a0_covering, .ref A_a0_kept, .ref A_a0_isKept, .int v_a0_keptAt, .int v_a0_isWriting])), (A_a0_pad, .inl (G.2.1, 60, .inl v_a0_pad)), (A_a0_act, .inl (G.2.1, 60, .inl (upd f22 x24.toNatClampNeg 0))), (A_a0_from, .inl (G.2.1, 60, .inl f23)), (A_a0_to, .inl (G.2.1, 60, .inl f54)), (A_a0_much, .inl (G.2.1, 60, .inl (upd f55 x24.toNatClampNeg (x90 - 48))))] := hD
              exact J105 _ _ _ _ (Option.some.inj h).symm _ _ _ hP hD hS (lv_sub hl [1, 2, 3, 5] rfl)
            have h := rs_pos hc h
            refine lv_aload_n hx hb dX11_fault_153 rfl (lv_at hl 1 rfl) ?_
            refine va_get (D := G.1) (ci := 11) (v := .ref A_a0_to) (C := RX11) (T := TX11) (N := 39) hx hb hts uX11_fault_11 hown hK.1 hP 0 rfl rfl 17 (by decide) (hts (.fieldLink RX11 31 "RingShadowModel" "to" "[I") (List.mem_of_getElem? (i := 8) rfl)) (fun _ h9 => h9) rfl dX11_fault_154 ?_
            refine lv_aload_n hx hb dX11_fault_157 rfl (lv_at hl 1 rfl) ?_
            refine va_get (D := G.1) (ci := 11) (v := .int x24) (C := RX11) (T := TX11) (N := 39) hx hb hts uX11_fault_11 hown hK.1 hP 0 rfl rfl 19 (by decide) (hts (.fieldLink RX11 142 "RingShadowModel" "acts" "I") (List.mem_of_getElem? (i := 1) rfl)) (fun _ h9 => h9) rfl dX11_fault_158 ?_
            refine lv_iload_n hx hb dX11_fault_161 rfl (lv_at hl 4 rfl) ?_
            refine lv_bipush (v := 97) hx hb dX11_fault_162 (by decide) ?_
            refine lv_isub hx hb dX11_fault_164 ?_
            obtain ⟨hg, h⟩ := rs_gd h
            refine va_iast hx hb hK.1 hP hD hS 4 0 rfl rfl hg dX11_fault_165 (fun H locs hP hD hS => ?_)
            have hP : va_P G.1 vwCl [(A_a0, .inr (11, [.int v_a0_lands, .int v_a0_wide, .int v_a0_pace, .int v_a0_age, .int v_a0_slitM, .int v_a0_slitA, .int v_a0_slitB, .int v_a0_year, .ref A_a0_is, .ref A_a0_sightLand, .ref A_a0_sightYear, .ref A_a0_sightCovered, .int v_a0_sights, .ref A_a0_pad, .int v_a0_padMany, .ref A_a0_act, .ref A_a0_from, .ref A_a0_to, .ref A_a0_much, .int x24, .int v_a0_hungers, .ref A_a0_hungryIn, .ref A_a0_had, .int v_a0_hadYear, .int v_a0_badAct, .int v_a0_badWhy, .int v_a0_years, .ref A_a0_leaves, .int v_a0_yearThen, .ref A_a0_steps, .ref A_a0_nextSteps, .ref A_a0_waysTo, .ref A_a0_nextWays, .int v_a0_lawMany, .ref A_a0_covering, .ref A_a0_kept, .ref A_a0_isKept, .int v_a0_keptAt, .int v_a0_isWriting])), (A_a0_pad, .inl (G.2.1, 60, .inl v_a0_pad)), (A_a0_act, .inl (G.2.1, 60, .inl f22)), (A_a0_from, .inl (G.2.1, 60, .inl f23)), (A_a0_to, .inl (G.2.1, 60, .inl (upd f54 x24.toNatClampNeg (x90 - 97)))), (A_a0_much, .inl (G.2.1, 60, .inl f55))] H := hP
            have hD : va_D A [(A_a0, .inr (11, [.int v_a0_lands, .int v_a0_wide, .int v_a0_pace, .int v_a0_age, .int v_a0_slitM, .int v_a0_slitA, .int v_a0_slitB, .int v_a0_year, .ref A_a0_is, .ref A_a0_sightLand, .ref A_a0_sightYear, .ref A_a0_sightCovered, .int v_a0_sights, .ref A_a0_pad, .int v_a0_padMany, .ref A_a0_act, .ref A_a0_from, .ref A_a0_to, .ref A_a0_much, .int x24, .int v_a0_hungers, .ref A_a0_hungryIn, .ref A_a0_had, .int v_a0_hadYear, .int v_a0_badAct, .int v_a0_badWhy, .int v_a0_years, .ref A_a0_leaves, .int v_a0_yearThen, .ref A_a0_steps, .ref A_a0_nextSteps, .ref A_a0_waysTo, .ref A_a0_nextWays, .int v_a0_lawMany, .ref A_a0_covering, .ref A_a0_kept, .ref A_a0_isKept, .int v_a0_keptAt, .int v_a0_isWriting])), (A_a0_pad, .inl (G.2.1, 60, .inl v_a0_pad)), (A_a0_act, .inl (G.2.1, 60, .inl f22)), (A_a0_from, .inl (G.2.1, 60, .inl f23)), (A_a0_to, .inl (G.2.1, 60, .inl (upd f54 x24.toNatClampNeg (x90 - 97)))), (A_a0_much, .inl (G.2.1, 60, .inl f55))] := hD
            refine lv_goto (tgt := 192) hx hb dX11_fault_166 (by decide) ?_
            exact J105 _ _ _ _ (Option.some.inj h).symm _ _ _ hP hD hS (lv_sub hl [1, 2, 3, 5] rfl)
          have h := rs_pos hc h
          refine lv_aload_n hx hb dX11_fault_132 rfl (lv_at hl 1 rfl) ?_
          refine va_get (D := G.1) (ci := 11) (v := .ref A_a0_from) (C := RX11) (T := TX11) (N := 39) hx hb hts uX11_fault_11 hown hK.1 hP 0 rfl rfl 16 (by decide) (hts (.fieldLink RX11 28 "RingShadowModel" "from" "[I") (List.mem_of_getElem? (i := 7) rfl)) (fun _ h9 => h9) rfl dX11_fault_133 ?_
          refine lv_aload_n hx hb dX11_fault_136 rfl (lv_at hl 1 rfl) ?_
          refine va_get (D := G.1) (ci := 11) (v := .int x24) (C := RX11) (T := TX11) (N := 39) hx hb hts uX11_fault_11 hown hK.1 hP 0 rfl rfl 19 (by decide) (hts (.fieldLink RX11 142 "RingShadowModel" "acts" "I") (List.mem_of_getElem? (i := 1) rfl)) (fun _ h9 => h9) rfl dX11_fault_137 ?_
          refine lv_iload_n hx hb dX11_fault_140 rfl (lv_at hl 4 rfl) ?_
          refine lv_bipush (v := 97) hx hb dX11_fault_141 (by decide) ?_
          refine lv_isub hx hb dX11_fault_143 ?_
          obtain ⟨hg, h⟩ := rs_gd h
          refine va_iast hx hb hK.1 hP hD hS 3 0 rfl rfl hg dX11_fault_144 (fun H locs hP hD hS => ?_)
          have hP : va_P G.1 vwCl [(A_a0, .inr (11, [.int v_a0_lands, .int v_a0_wide, .int v_a0_pace, .int v_a0_age, .int v_a0_slitM, .int v_a0_slitA, .int v_a0_slitB, .int v_a0_year, .ref A_a0_is, .ref A_a0_sightLand, .ref A_a0_sightYear, .ref A_a0_sightCovered, .int v_a0_sights, .ref A_a0_pad, .int v_a0_padMany, .ref A_a0_act, .ref A_a0_from, .ref A_a0_to, .ref A_a0_much, .int x24, .int v_a0_hungers, .ref A_a0_hungryIn, .ref A_a0_had, .int v_a0_hadYear, .int v_a0_badAct, .int v_a0_badWhy, .int v_a0_years, .ref A_a0_leaves, .int v_a0_yearThen, .ref A_a0_steps, .ref A_a0_nextSteps, .ref A_a0_waysTo, .ref A_a0_nextWays, .int v_a0_lawMany, .ref A_a0_covering, .ref A_a0_kept, .ref A_a0_isKept, .int v_a0_keptAt, .int v_a0_isWriting])), (A_a0_pad, .inl (G.2.1, 60, .inl v_a0_pad)), (A_a0_act, .inl (G.2.1, 60, .inl f22)), (A_a0_from, .inl (G.2.1, 60, .inl (upd f23 x24.toNatClampNeg (x90 - 97)))), (A_a0_to, .inl (G.2.1, 60, .inl f54)), (A_a0_much, .inl (G.2.1, 60, .inl f55))] H := hP
          have hD : va_D A [(A_a0, .inr (11, [.int v_a0_lands, .int v_a0_wide, .int v_a0_pace, .int v_a0_age, .int v_a0_slitM, .int v_a0_slitA, .int v_a0_slitB, .int v_a0_year, .ref A_a0_is, .ref A_a0_sightLand, .ref A_a0_sightYear, .ref A_a0_sightCovered, .int v_a0_sights, .ref A_a0_pad, .int v_a0_padMany, .ref A_a0_act, .ref A_a0_from, .ref A_a0_to, .ref A_a0_much, .int x24, .int v_a0_hungers, .ref A_a0_hungryIn, .ref A_a0_had, .int v_a0_hadYear, .int v_a0_badAct, .int v_a0_badWhy, .int v_a0_years, .ref A_a0_leaves, .int v_a0_yearThen, .ref A_a0_steps, .ref A_a0_nextSteps, .ref A_a0_waysTo, .ref A_a0_nextWays, .int v_a0_lawMany, .ref A_a0_covering, .ref A_a0_kept, .ref A_a0_isKept, .int v_a0_keptAt, .int v_a0_isWriting])), (A_a0_pad, .inl (G.2.1, 60, .inl v_a0_pad)), (A_a0_act, .inl (G.2.1, 60, .inl f22)), (A_a0_from, .inl (G.2.1, 60, .inl (upd f23 x24.toNatClampNeg (x90 - 97)))), (A_a0_to, .inl (G.2.1, 60, .inl f54)), (A_a0_much, .inl (G.2.1, 60, .inl f55))] := hD
          refine lv_goto (tgt := 192) hx hb dX11_fault_145 (by decide) ?_
          exact J105 _ _ _ _ (Option.some.inj h).symm _ _ _ hP hD hS (lv_sub hl [1, 2, 3, 5] rfl)
        have h := rs_neg hc h
        refine lv_aload_n hx hb dX11_fault_104 rfl (lv_at hl 1 rfl) ?_
        refine va_get (D := G.1) (ci := 11) (v := .ref A_a0_act) (C := RX11) (T := TX11) (N := 39) hx hb hts uX11_fault_11 hown hK.1 hP 0 rfl rfl 15 (by decide) (hts (.fieldLink RX11 25 "RingShadowModel" "act" "[I") (List.mem_of_getElem? (i := 6) rfl)) (fun _ h9 => h9) rfl dX11_fault_105 ?_
        refine lv_aload_n hx hb dX11_fault_108 rfl (lv_at hl 1 rfl) ?_
        refine va_get (D := G.1) (ci := 11) (v := .int x24) (C := RX11) (T := TX11) (N := 39) hx hb hts uX11_fault_11 hown hK.1 hP 0 rfl rfl 19 (by decide) (hts (.fieldLink RX11 142 "RingShadowModel" "acts" "I") (List.mem_of_getElem? (i := 1) rfl)) (fun _ h9 => h9) rfl dX11_fault_109 ?_
        refine lv_iload_n hx hb dX11_fault_112 rfl (lv_at hl 4 rfl) ?_
        refine lv_bipush (v := 46) hx hb dX11_fault_113 (by decide) ?_
        obtain ⟨X112, hX112, h⟩ := rs_b1s h
        have J112 : ∀ (x111 : Int32), X112 = x111 → ∀ (H : Heap) (locs : List Loc) (ls : Array Slot), va_P G.1 vwCl [(A_a0, .inr (11, [.int v_a0_lands, .int v_a0_wide, .int v_a0_pace, .int v_a0_age, .int v_a0_slitM, .int v_a0_slitA, .int v_a0_slitB, .int v_a0_year, .ref A_a0_is, .ref A_a0_sightLand, .ref A_a0_sightYear, .ref A_a0_sightCovered, .int v_a0_sights, .ref A_a0_pad, .int v_a0_padMany, .ref A_a0_act, .ref A_a0_from, .ref A_a0_to, .ref A_a0_much, .int x24, .int v_a0_hungers, .ref A_a0_hungryIn, .ref A_a0_had, .int v_a0_hadYear, .int v_a0_badAct, .int v_a0_badWhy, .int v_a0_years, .ref A_a0_leaves, .int v_a0_yearThen, .ref A_a0_steps, .ref A_a0_nextSteps, .ref A_a0_waysTo, .ref A_a0_nextWays, .int v_a0_lawMany, .ref A_a0_covering, .ref A_a0_kept, .ref A_a0_isKept, .int v_a0_keptAt, .int v_a0_isWriting])), (A_a0_pad, .inl (G.2.1, 60, .inl v_a0_pad)), (A_a0_act, .inl (G.2.1, 60, .inl f22)), (A_a0_from, .inl (G.2.1, 60, .inl f23)), (A_a0_to, .inl (G.2.1, 60, .inl f54)), (A_a0_much, .inl (G.2.1, 60, .inl f55))] H → va_D A [(A_a0, .inr (11, [.int v_a0_lands, .int v_a0_wide, .int v_a0_pace, .int v_a0_age, .int v_a0_slitM, .int v_a0_slitA, .int v_a0_slitB, .int v_a0_year, .ref A_a0_is, .ref A_a0_sightLand, .ref A_a0_sightYear, .ref A_a0_sightCovered, .int v_a0_sights, .ref A_a0_pad, .int v_a0_padMany, .ref A_a0_act, .ref A_a0_from, .ref A_a0_to, .ref A_a0_much, .int x24, .int v_a0_hungers, .ref A_a0_hungryIn, .ref A_a0_had, .int v_a0_hadYear, .int v_a0_badAct, .int v_a0_badWhy, .int v_a0_years, .ref A_a0_leaves, .int v_a0_yearThen, .ref A_a0_steps, .ref A_a0_nextSteps, .ref A_a0_waysTo, .ref A_a0_nextWays, .int v_a0_lawMany, .ref A_a0_covering, .ref A_a0_kept, .ref A_a0_isKept, .int v_a0_keptAt, .int v_a0_isWriting])), (A_a0_pad, .inl (G.2.1, 60, .inl v_a0_pad)), (A_a0_act, .inl (G.2.1, 60, .inl f22)), (A_a0_from, .inl (G.2.1, 60, .inl f23)), (A_a0_to, .inl (G.2.1, 60, .inl f54)), (A_a0_much, .inl (G.2.1, 60, .inl f55))] → va_S A s.heap H locs → lv_has ls 6 [(0, .ref A_a0), (1, .int x25), (2, .int x26), (4, .int x91)] → W p l e rmX11_fault s m args below meth c H locs 0 0 Q (F0 m 124 ls [.int x111, .int x24, .ref A_a0_act]) := by
          intro x111 hz H locs ls hP hD hS hl
          have h := h _ hz
          obtain ⟨hg, h⟩ := rs_gd h
          refine va_iast hx hb hK.1 hP hD hS 2 0 rfl rfl hg dX11_fault_124 (fun H locs hP hD hS => ?_)
          have hP : va_P G.1 vwCl [(A_a0, .inr (11, [.int v_a0_lands, .int v_a0_wide, .int v_a0_pace, .int v_a0_age, .int v_a0_slitM, .int v_a0_slitA, .int v_a0_slitB, .int v_a0_year, .ref A_a0_is, .ref A_a0_sightLand, .ref A_a0_sightYear, .ref A_a0_sightCovered, .int v_a0_sights, .ref A_a0_pad, .int v_a0_padMany, .ref A_a0_act, .ref A_a0_from, .ref A_a0_to, .ref A_a0_much, .int x24, .int v_a0_hungers, .ref A_a0_hungryIn, .ref A_a0_had, .int v_a0_hadYear, .int v_a0_badAct, .int v_a0_badWhy, .int v_a0_years, .ref A_a0_leaves, .int v_a0_yearThen, .ref A_a0_steps, .ref A_a0_nextSteps, .ref A_a0_waysTo, .ref A_a0_nextWays, .int v_a0_lawMany, .ref A_a0_covering, .ref A_a0_kept, .ref A_a0_isKept, .int v_a0_keptAt, .int v_a0_isWriting])), (A_a0_pad, .inl (G.2.1, 60, .inl v_a0_pad)), (A_a0_act, .inl (G.2.1, 60, .inl (upd f22 x24.toNatClampNeg x111))), (A_a0_from, .inl (G.2.1, 60, .inl f23)), (A_a0_to, .inl (G.2.1, 60, .inl f54)), (A_a0_much, .inl (G.2.1, 60, .inl f55))] H := hP
          have hD : va_D A [(A_a0, .inr (11, [.int v_a0_lands, .int v_a0_wide, .int v_a0_pace, .int v_a0_age, .int v_a0_slitM, .int v_a0_slitA, .int v_a0_slitB, .int v_a0_year, .ref A_a0_is, .ref A_a0_sightLand, .ref A_a0_sightYear, .ref A_a0_sightCovered, .int v_a0_sights, .ref A_a0_pad, .int v_a0_padMany, .ref A_a0_act, .ref A_a0_from, .ref A_a0_to, .ref A_a0_much, .int x24, .int v_a0_hungers, .ref A_a0_hungryIn, .ref A_a0_had, .int v_a0_hadYear, .int v_a0_badAct, .int v_a0_badWhy, .int v_a0_years, .ref A_a0_leaves, .int v_a0_yearThen, .ref A_a0_steps, .ref A_a0_nextSteps, .ref A_a0_waysTo, .ref A_a0_nextWays, .int v_a0_lawMany, .ref A_a0_covering, .ref A_a0_kept, .ref A_a0_isKept, .int v_a0_keptAt, .int v_a0_isWriting])), (A_a0_pad, .inl (G.2.1, 60, .inl v_a0_pad)), (A_a0_act, .inl (G.2.1, 60, .inl (upd f22 x24.toNatClampNeg x111))), (A_a0_from, .inl (G.2.1, 60, .inl f23)), (A_a0_to, .inl (G.2.1, 60, .inl f54)), (A_a0_much, .inl (G.2.1, 60, .inl f55))] := hD
          refine lv_goto (tgt := 192) hx hb dX11_fault_125 (by decide) ?_
          exact J105 _ _ _ _ (Option.some.inj h).symm _ _ _ hP hD hS (lv_sub hl [0, 1, 2, 3] rfl)
        have h := hX112
        refine lv_icmp_ne (tgt := 122) hx hb dX11_fault_115 (by decide) (fun hc => ?_) (fun hc => ?_)
        · have h := rs_neg hc h
          refine lv_bipush (v := 10) hx hb dX11_fault_122 (by decide) ?_
          exact J112 _ (Option.some.inj h).symm _ _ _ hP hD hS (lv_sub hl [1, 2, 3, 5] rfl)
        have h := rs_pos hc h
        refine lv_iconst (v := 1) hx hb dX11_fault_118 (by decide) ?_
        refine lv_goto (tgt := 124) hx hb dX11_fault_119 (by decide) ?_
        exact J112 _ (Option.some.inj h).symm _ _ _ hP hD hS (lv_sub hl [1, 2, 3, 5] rfl)
      have h := rs_pos hc h
      refine lv_iload_n hx hb dX11_fault_97 rfl (lv_at hl 3 rfl) ?_
      exact ret _ _ _ _ _ _ () _ _ _ _ (hR83 _ (L83 _ (Option.some.inj h).symm)) hP hS dX11_fault_98 rfl
    have h := hX98
    refine lv_if_ne (tgt := 85) hx hb dX11_fault_49 (by decide) (fun hc => ?_) (fun hc => ?_)
    · have h := rs_neg hc h
      refine lv_iconst (v := 1) hx hb dX11_fault_85 (by decide) ?_
      refine lv_goto (tgt := 90) hx hb dX11_fault_86 (by decide) ?_
      exact J98 _ (Option.some.inj h).symm _ _ _ hP hD hS (lv_sub hl [1, 2, 3, 4, 0] rfl)
    have h := rs_pos hc h
    refine lv_iload_n hx hb dX11_fault_52 rfl (lv_at hl 2 rfl) ?_
    refine lv_iconst (v := 2) hx hb dX11_fault_53 (by decide) ?_
    refine lv_icmp_ge (tgt := 71) hx hb dX11_fault_54 (by decide) (fun hc => ?_) (fun hc => ?_)
    · have h := rs_pos hc h
      refine lv_iload_n hx hb dX11_fault_71 rfl (lv_at hl 4 rfl) ?_
      refine lv_i2l (v := (x90.toInt64)) hx hb dX11_fault_72 rfl ?_
      refine lv_ldc2 hx hb hown (hts (.constantLong RX11 145 (49)) (List.mem_of_getElem? (i := 4) rfl)) dX11_fault_73 ?_
      refine lv_ldc2 hx hb hown (hts (.constantLong RX11 147 (57)) (List.mem_of_getElem? (i := 5) rfl)) dX11_fault_76 ?_
      obtain ⟨x113, h114, h⟩ := rs_b1s h
      have h := h _ rfl
      refine rs_callSi (As := [.long (x90.toInt64), .long 49, .long 57]) (rest := []) ⟨hx, hb, hml, hown, hts⟩ (c_X11_in l G (x90.toInt64) 49 57 x113 h114) (va_cwS 3 hts gX11_fault_X11_in rfl rfl rfl (by decide +kernel) ⟨Nat.le_of_ble_eq_true rfl, Nat.le_of_ble_eq_true rfl⟩) dX11_fault_79 hK hP hD hS hA [] rfl (by decide) rfl rfl hl.1 (lv_room (Nat.le_of_ble_eq_true rfl)) ⟨Nat.zero_le _, Nat.zero_le _⟩ (fun (_ : Unit) => [(A_a0, .inr (11, [.int v_a0_lands, .int v_a0_wide, .int v_a0_pace, .int v_a0_age, .int v_a0_slitM, .int v_a0_slitA, .int v_a0_slitB, .int v_a0_year, .ref A_a0_is, .ref A_a0_sightLand, .ref A_a0_sightYear, .ref A_a0_sightCovered, .int v_a0_sights, .ref A_a0_pad, .int v_a0_padMany, .ref A_a0_act, .ref A_a0_from, .ref A_a0_to, .ref A_a0_much, .int x24, .int v_a0_hungers, .ref A_a0_hungryIn, .ref A_a0_had, .int v_a0_hadYear, .int v_a0_badAct, .int v_a0_badWhy, .int v_a0_years, .ref A_a0_leaves, .int v_a0_yearThen, .ref A_a0_steps, .ref A_a0_nextSteps, .ref A_a0_waysTo, .ref A_a0_nextWays, .int v_a0_lawMany, .ref A_a0_covering, .ref A_a0_kept, .ref A_a0_isKept, .int v_a0_keptAt, .int v_a0_isWriting])), (A_a0_pad, .inl (G.2.1, 60, .inl v_a0_pad)), (A_a0_act, .inl (G.2.1, 60, .inl f22)), (A_a0_from, .inl (G.2.1, 60, .inl f23)), (A_a0_to, .inl (G.2.1, 60, .inl f54)), (A_a0_much, .inl (G.2.1, 60, .inl f55))]) (fun _ => rfl) (fun _ => rfl) (fun u114 H locs hP hD hS => ?_)
      refine lv_if_eq (tgt := 89) hx hb dX11_fault_82 (by decide) (fun hc => ?_) (fun hc => ?_)
      · have h := rs_pos hc h
        refine lv_iconst (v := 0) hx hb dX11_fault_89 (by decide) ?_
        exact J98 _ (Option.some.inj h).symm _ _ _ hP hD hS (lv_sub hl [1, 2, 3, 4, 0] rfl)
      have h := rs_neg hc h
      refine lv_iconst (v := 1) hx hb dX11_fault_85 (by decide) ?_
      refine lv_goto (tgt := 90) hx hb dX11_fault_86 (by decide) ?_
      exact J98 _ (Option.some.inj h).symm _ _ _ hP hD hS (lv_sub hl [1, 2, 3, 4, 0] rfl)
    have h := rs_neg hc h
    refine lv_aload_n hx hb dX11_fault_57 rfl (lv_at hl 1 rfl) ?_
    refine lv_iload_n hx hb dX11_fault_58 rfl (lv_at hl 4 rfl) ?_
    refine lv_bipush (v := 97) hx hb dX11_fault_59 (by decide) ?_
    refine lv_isub hx hb dX11_fault_61 ?_
    obtain ⟨x115, h116, h⟩ := rs_b1s h
    have h := h _ rfl
    refine rs_callVi (As := [.int (x90 - 97)]) (rest := []) ⟨hx, hb, hml, hown, hts⟩ (c_X11_isLand l G A_a0 A_a0_is A_a0_sightLand A_a0_sightYear A_a0_sightCovered A_a0_pad A_a0_act A_a0_from A_a0_to A_a0_much A_a0_hungryIn A_a0_had A_a0_leaves A_a0_steps A_a0_nextSteps A_a0_waysTo A_a0_nextWays A_a0_covering A_a0_kept A_a0_isKept v_a0_lands v_a0_wide v_a0_pace v_a0_age v_a0_slitM v_a0_slitA v_a0_slitB v_a0_year v_a0_sights v_a0_padMany x24 v_a0_hungers v_a0_hadYear v_a0_badAct v_a0_badWhy v_a0_years v_a0_yearThen v_a0_lawMany v_a0_keptAt v_a0_isWriting (x90 - 97) x115 h116) (cwV 1 hts gX11_fault_X11_isLand rfl rfl rfl (by decide +kernel) ⟨Nat.le_of_ble_eq_true rfl, Nat.le_of_ble_eq_true rfl⟩) dX11_fault_62 hK hP hD hS hA [0] rfl (by decide) rfl rfl (q0 := 0) (ci := 11) rfl rfl rfl hl.1 (lv_room (Nat.le_of_ble_eq_true rfl)) ⟨Nat.zero_le _, Nat.zero_le _⟩ (fun (_ : Unit) => [(A_a0, .inr (11, [.int v_a0_lands, .int v_a0_wide, .int v_a0_pace, .int v_a0_age, .int v_a0_slitM, .int v_a0_slitA, .int v_a0_slitB, .int v_a0_year, .ref A_a0_is, .ref A_a0_sightLand, .ref A_a0_sightYear, .ref A_a0_sightCovered, .int v_a0_sights, .ref A_a0_pad, .int v_a0_padMany, .ref A_a0_act, .ref A_a0_from, .ref A_a0_to, .ref A_a0_much, .int x24, .int v_a0_hungers, .ref A_a0_hungryIn, .ref A_a0_had, .int v_a0_hadYear, .int v_a0_badAct, .int v_a0_badWhy, .int v_a0_years, .ref A_a0_leaves, .int v_a0_yearThen, .ref A_a0_steps, .ref A_a0_nextSteps, .ref A_a0_waysTo, .ref A_a0_nextWays, .int v_a0_lawMany, .ref A_a0_covering, .ref A_a0_kept, .ref A_a0_isKept, .int v_a0_keptAt, .int v_a0_isWriting])), (A_a0_pad, .inl (G.2.1, 60, .inl v_a0_pad)), (A_a0_act, .inl (G.2.1, 60, .inl f22)), (A_a0_from, .inl (G.2.1, 60, .inl f23)), (A_a0_to, .inl (G.2.1, 60, .inl f54)), (A_a0_much, .inl (G.2.1, 60, .inl f55))]) (fun _ => rfl) (fun _ => rfl) (fun u116 H locs hP hD hS => ?_)
    refine lv_if_eq (tgt := 89) hx hb dX11_fault_65 (by decide) (fun hc => ?_) (fun hc => ?_)
    · have h := rs_pos hc h
      refine lv_iconst (v := 0) hx hb dX11_fault_89 (by decide) ?_
      exact J98 _ (Option.some.inj h).symm _ _ _ hP hD hS (lv_sub hl [1, 2, 3, 4, 0] rfl)
    have h := rs_neg hc h
    refine lv_goto (tgt := 85) hx hb dX11_fault_68 (by decide) ?_
    refine lv_iconst (v := 1) hx hb dX11_fault_85 (by decide) ?_
    refine lv_goto (tgt := 90) hx hb dX11_fault_86 (by decide) ?_
    exact J98 _ (Option.some.inj h).symm _ _ _ hP hD hS (lv_sub hl [1, 2, 3, 4, 0] rfl)
  have h := hX92
  refine lv_if_ne (tgt := 44) hx hb dX11_fault_25 (by decide) (fun hc => ?_) (fun hc => ?_)
  · have h := rs_neg hc h
    refine lv_iconst (v := 0) hx hb dX11_fault_44 (by decide) ?_
    exact J92 _ (Option.some.inj h).symm _ _ _ hP hD hS (lv_sub hl [1, 2, 3, 0] rfl)
  have h := rs_pos hc h
  refine lv_iload_n hx hb dX11_fault_28 rfl (lv_at hl 0 rfl) ?_
  refine lv_bipush (v := 46) hx hb dX11_fault_29 (by decide) ?_
  refine lv_icmp_eq (tgt := 40) hx hb dX11_fault_31 (by decide) (fun hc => ?_) (fun hc => ?_)
  · have h := rs_pos hc h
    refine lv_iconst (v := 1) hx hb dX11_fault_40 (by decide) ?_
    refine lv_goto (tgt := 45) hx hb dX11_fault_41 (by decide) ?_
    exact J92 _ (Option.some.inj h).symm _ _ _ hP hD hS (lv_sub hl [1, 2, 3, 0] rfl)
  have h := rs_neg hc h
  refine lv_iload_n hx hb dX11_fault_34 rfl (lv_at hl 0 rfl) ?_
  refine lv_bipush (v := 58) hx hb dX11_fault_35 (by decide) ?_
  refine lv_icmp_ne (tgt := 44) hx hb dX11_fault_37 (by decide) (fun hc => ?_) (fun hc => ?_)
  · have h := rs_neg hc h
    refine lv_iconst (v := 0) hx hb dX11_fault_44 (by decide) ?_
    exact J92 _ (Option.some.inj h).symm _ _ _ hP hD hS (lv_sub hl [1, 2, 3, 0] rfl)
  have h := rs_pos hc h
  refine lv_iconst (v := 1) hx hb dX11_fault_40 (by decide) ?_
  refine lv_goto (tgt := 45) hx hb dX11_fault_41 (by decide) ?_
  exact J92 _ (Option.some.inj h).symm _ _ _ hP hD hS (lv_sub hl [1, 2, 3, 0] rfl)
abbrev rmX11_firstCovered : Room := { frames := 0, cells := 0, slots := 0, locals := 0 }
set_option maxRecDepth 100000 in
set_option maxHeartbeats 4000000 in
theorem c_X11_firstCovered (l : Launch) (G : rs_G) (p0 : Int32) (p1 : Int32) (p2 : Int32) (p3 : Int32) (p4 : Int32) (r0 : Int32) (h : f_X11_firstCovered p0 p1 p2 p3 p4 = some r0) : rs_Ci l yX11_firstCovered wsX11_firstCovered rmX11_firstCovered G [.int p0, .int p1, .int p2, .int p3, .int p4] [] (fun (_ : Unit) => []) r0 := by
  refine rs_enter_i (cc := cX11_firstCovered) (maxL := 7) (ty := .int) (by decide) rfl (Nat.le_of_ble_eq_true rfl) (fun p e s m args below meth c A Q ls E ret hP hD hS hA hl => ?_)
  obtain ⟨hx, hb, hml, hown, hts, hK⟩ := E
  have hown : s.vm.findClass RX11 = some m.cls := hown
  have hl : lv_has ls 7 [(0, .int p0), (1, .int p1), (2, .int p2), (3, .int p3), (4, .int p4)] := hl
  have ret : ∀ (v0 : Int32) (u : Unit) (H : Heap) (locs : List Loc) (pc : Nat) (ls : Array Slot), some v0 = some r0 → va_P G.1 vwCl [] H → va_S A s.heap H locs → decode cX11_firstCovered pc = .ok (.ireturn, 1) → narrow .int (.int v0) = .int v0 → W p l e rmX11_firstCovered s m args below meth c H locs 0 0 Q (F0 m pc ls [.int v0]) := by
    intro v0 u H locs pc ls hz
    cases hz
    exact ret u H locs pc ls
  unfold f_X11_firstCovered at h
  refine lv_iload_n hx hb dX11_firstCovered_0 rfl (lv_at hl 0 rfl) ?_
  refine lv_iload_n hx hb dX11_firstCovered_1 rfl (lv_at hl 1 rfl) ?_
  refine lv_isub hx hb dX11_firstCovered_2 ?_
  refine rs_topi h (fun x1 h => ?_)
  refine lv_istore (lv' := [(5, .int x1), (0, .int p0), (1, .int p1), (2, .int p2), (3, .int p3), (4, .int p4)]) hx hb dX11_firstCovered_3 hl (by decide) rfl (fun ls hl => ?_)
  refine lv_iload hx hb dX11_firstCovered_5 (lv_at hl 5 rfl) ?_
  refine lv_iload_n hx hb dX11_firstCovered_7 rfl (lv_at hl 4 rfl) ?_
  refine lv_iadd hx hb dX11_firstCovered_8 ?_
  refine lv_iload_n hx hb dX11_firstCovered_9 rfl (lv_at hl 3 rfl) ?_
  obtain ⟨hg, h⟩ := rs_gd h
  refine lv_idiv hx hb dX11_firstCovered_10 hg ?_
  refine lv_iconst (v := 2) hx hb dX11_firstCovered_11 (by decide) ?_
  refine lv_iload hx hb dX11_firstCovered_12 (lv_at hl 0 rfl) ?_
  refine lv_imul hx hb dX11_firstCovered_14 ?_
  obtain ⟨hg, h⟩ := rs_gd h
  refine lv_irem hx hb dX11_firstCovered_15 hg ?_
  refine rs_topi h (fun x2 h => ?_)
  refine lv_istore (lv' := [(6, .int x2), (5, .int x1), (0, .int p0), (1, .int p1), (2, .int p2), (3, .int p3), (4, .int p4)]) hx hb dX11_firstCovered_16 hl (by decide) rfl (fun ls hl => ?_)
  refine lv_iload hx hb dX11_firstCovered_18 (lv_at hl 0 rfl) ?_
  refine lv_iload hx hb dX11_firstCovered_20 (lv_at hl 1 rfl) ?_
  refine lv_icmp_le (tgt := 35) hx hb dX11_firstCovered_22 (by decide) (fun hc => ?_) (fun hc => ?_)
  · have h := rs_pos hc h
    refine lv_iload hx hb dX11_firstCovered_35 (lv_at hl 0 rfl) ?_
    exact ret _ () _ _ _ _ h hP hS dX11_firstCovered_37 rfl
  have h := rs_neg hc h
  refine lv_iconst (v := 2) hx hb dX11_firstCovered_25 (by decide) ?_
  refine lv_iload hx hb dX11_firstCovered_26 (lv_at hl 1 rfl) ?_
  refine lv_imul hx hb dX11_firstCovered_28 ?_
  refine lv_iload hx hb dX11_firstCovered_29 (lv_at hl 0 rfl) ?_
  refine lv_isub hx hb dX11_firstCovered_31 ?_
  refine lv_goto (tgt := 37) hx hb dX11_firstCovered_32 (by decide) ?_
  exact ret _ () _ _ _ _ h hP hS dX11_firstCovered_37 rfl
theorem uX11_isCovered_11 : ∀ w ∈ wsX110, w ∈ wsX11_isCovered := fun _ h => List.mem_cons_of_mem _ (List.mem_append_right _ h)
abbrev rmX11_isCovered : Room := { frames := 1, cells := 0, slots := 0, locals := 26 }
set_option maxRecDepth 100000 in
set_option maxHeartbeats 4000000 in
theorem c_X11_isCovered (l : Launch) (G : rs_G) (A_a0 : Nat) (A_a0_is : Nat) (A_a0_sightLand : Nat) (A_a0_sightYear : Nat) (A_a0_sightCovered : Nat) (A_a0_pad : Nat) (A_a0_act : Nat) (A_a0_from : Nat) (A_a0_to : Nat) (A_a0_much : Nat) (A_a0_hungryIn : Nat) (A_a0_had : Nat) (A_a0_leaves : Nat) (A_a0_steps : Nat) (A_a0_nextSteps : Nat) (A_a0_waysTo : Nat) (A_a0_nextWays : Nat) (A_a0_covering : Nat) (A_a0_kept : Nat) (A_a0_isKept : Nat) (v_a0_lands : Int32) (v_a0_wide : Int32) (v_a0_pace : Int32) (v_a0_age : Int32) (v_a0_slitM : Int32) (v_a0_slitA : Int32) (v_a0_slitB : Int32) (v_a0_year : Int32) (v_a0_sights : Int32) (v_a0_padMany : Int32) (v_a0_acts : Int32) (v_a0_hungers : Int32) (v_a0_hadYear : Int32) (v_a0_badAct : Int32) (v_a0_badWhy : Int32) (v_a0_years : Int32) (v_a0_yearThen : Int32) (v_a0_lawMany : Int32) (v_a0_keptAt : Int32) (v_a0_isWriting : Int32) (p1 : Int32) (p2 : Int32) (r0 : Int32) (h : f_X11_isCovered p1 p2 v_a0_lands v_a0_wide v_a0_pace v_a0_age = some r0) : rs_Ci l yX11_isCovered wsX11_isCovered rmX11_isCovered G [.ref A_a0, .int p1, .int p2] [(A_a0, .inr (11, [.int v_a0_lands, .int v_a0_wide, .int v_a0_pace, .int v_a0_age, .int v_a0_slitM, .int v_a0_slitA, .int v_a0_slitB, .int v_a0_year, .ref A_a0_is, .ref A_a0_sightLand, .ref A_a0_sightYear, .ref A_a0_sightCovered, .int v_a0_sights, .ref A_a0_pad, .int v_a0_padMany, .ref A_a0_act, .ref A_a0_from, .ref A_a0_to, .ref A_a0_much, .int v_a0_acts, .int v_a0_hungers, .ref A_a0_hungryIn, .ref A_a0_had, .int v_a0_hadYear, .int v_a0_badAct, .int v_a0_badWhy, .int v_a0_years, .ref A_a0_leaves, .int v_a0_yearThen, .ref A_a0_steps, .ref A_a0_nextSteps, .ref A_a0_waysTo, .ref A_a0_nextWays, .int v_a0_lawMany, .ref A_a0_covering, .ref A_a0_kept, .ref A_a0_isKept, .int v_a0_keptAt, .int v_a0_isWriting]))] (fun (_ : Unit) => [(A_a0, .inr (11, [.int v_a0_lands, .int v_a0_wide, .int v_a0_pace, .int v_a0_age, .int v_a0_slitM, .int v_a0_slitA, .int v_a0_slitB, .int v_a0_year, .ref A_a0_is, .ref A_a0_sightLand, .ref A_a0_sightYear, .ref A_a0_sightCovered, .int v_a0_sights, .ref A_a0_pad, .int v_a0_padMany, .ref A_a0_act, .ref A_a0_from, .ref A_a0_to, .ref A_a0_much, .int v_a0_acts, .int v_a0_hungers, .ref A_a0_hungryIn, .ref A_a0_had, .int v_a0_hadYear, .int v_a0_badAct, .int v_a0_badWhy, .int v_a0_years, .ref A_a0_leaves, .int v_a0_yearThen, .ref A_a0_steps, .ref A_a0_nextSteps, .ref A_a0_waysTo, .ref A_a0_nextWays, .int v_a0_lawMany, .ref A_a0_covering, .ref A_a0_kept, .ref A_a0_isKept, .int v_a0_keptAt, .int v_a0_isWriting]))]) r0 := by
  refine rs_enter_i (cc := cX11_isCovered) (maxL := 4) (ty := .boolean) (by decide) rfl (Nat.le_of_ble_eq_true rfl) (fun p e s m args below meth c A Q ls E ret hP hD hS hA hl => ?_)
  obtain ⟨hx, hb, hml, hown, hts, hK⟩ := E
  have hown : s.vm.findClass RX11 = some m.cls := hown
  have hl : lv_has ls 4 [(0, .ref A_a0), (1, .int p1), (2, .int p2)] := hl
  have ret : ∀ (v0 : Int32) (u : Unit) (H : Heap) (locs : List Loc) (pc : Nat) (ls : Array Slot), some v0 = some r0 → va_P G.1 vwCl [(A_a0, .inr (11, [.int v_a0_lands, .int v_a0_wide, .int v_a0_pace, .int v_a0_age, .int v_a0_slitM, .int v_a0_slitA, .int v_a0_slitB, .int v_a0_year, .ref A_a0_is, .ref A_a0_sightLand, .ref A_a0_sightYear, .ref A_a0_sightCovered, .int v_a0_sights, .ref A_a0_pad, .int v_a0_padMany, .ref A_a0_act, .ref A_a0_from, .ref A_a0_to, .ref A_a0_much, .int v_a0_acts, .int v_a0_hungers, .ref A_a0_hungryIn, .ref A_a0_had, .int v_a0_hadYear, .int v_a0_badAct, .int v_a0_badWhy, .int v_a0_years, .ref A_a0_leaves, .int v_a0_yearThen, .ref A_a0_steps, .ref A_a0_nextSteps, .ref A_a0_waysTo, .ref A_a0_nextWays, .int v_a0_lawMany, .ref A_a0_covering, .ref A_a0_kept, .ref A_a0_isKept, .int v_a0_keptAt, .int v_a0_isWriting]))] H → va_S A s.heap H locs → decode cX11_isCovered pc = .ok (.ireturn, 1) → narrow .boolean (.int v0) = .int v0 → W p l e rmX11_isCovered s m args below meth c H locs 0 0 Q (F0 m pc ls [.int v0]) := by
    intro v0 u H locs pc ls hz
    cases hz
    exact ret u H locs pc ls
  unfold f_X11_isCovered at h
  refine lv_aload_n hx hb dX11_isCovered_0 rfl (lv_at hl 0 rfl) ?_
  refine va_get (D := G.1) (ci := 11) (v := .int v_a0_lands) (C := RX11) (T := TX11) (N := 39) hx hb hts uX11_isCovered_11 hown hK.1 hP 0 rfl rfl 0 (by decide) (hts (.fieldLink RX11 83 "RingShadowModel" "lands" "I") (List.mem_of_getElem? (i := 1) rfl)) (fun _ h9 => h9) rfl dX11_isCovered_1 ?_
  refine lv_aload_n hx hb dX11_isCovered_4 rfl (lv_at hl 0 rfl) ?_
  refine va_get (D := G.1) (ci := 11) (v := .int v_a0_wide) (C := RX11) (T := TX11) (N := 39) hx hb hts uX11_isCovered_11 hown hK.1 hP 0 rfl rfl 1 (by decide) (hts (.fieldLink RX11 86 "RingShadowModel" "wide" "I") (List.mem_of_getElem? (i := 2) rfl)) (fun _ h9 => h9) rfl dX11_isCovered_5 ?_
  refine lv_aload_n hx hb dX11_isCovered_8 rfl (lv_at hl 0 rfl) ?_
  refine va_get (D := G.1) (ci := 11) (v := .int v_a0_pace) (C := RX11) (T := TX11) (N := 39) hx hb hts uX11_isCovered_11 hown hK.1 hP 0 rfl rfl 2 (by decide) (hts (.fieldLink RX11 69 "RingShadowModel" "pace" "I") (List.mem_of_getElem? (i := 3) rfl)) (fun _ h9 => h9) rfl dX11_isCovered_9 ?_
  refine lv_aload_n hx hb dX11_isCovered_12 rfl (lv_at hl 0 rfl) ?_
  refine va_get (D := G.1) (ci := 11) (v := .int v_a0_age) (C := RX11) (T := TX11) (N := 39) hx hb hts uX11_isCovered_11 hown hK.1 hP 0 rfl rfl 3 (by decide) (hts (.fieldLink RX11 115 "RingShadowModel" "age" "I") (List.mem_of_getElem? (i := 4) rfl)) (fun _ h9 => h9) rfl dX11_isCovered_13 ?_
  refine lv_iload_n hx hb dX11_isCovered_16 rfl (lv_at hl 2 rfl) ?_
  obtain ⟨x1, h2, h⟩ := rs_b1s h
  have h := h _ rfl
  refine rs_callSi (As := [.int v_a0_lands, .int v_a0_wide, .int v_a0_pace, .int v_a0_age, .int p2]) (rest := []) ⟨hx, hb, hml, hown, hts⟩ (c_X11_firstCovered l G v_a0_lands v_a0_wide v_a0_pace v_a0_age p2 x1 h2) (va_cwS 5 hts gX11_isCovered_X11_firstCovered rfl rfl rfl (by decide +kernel) ⟨Nat.le_of_ble_eq_true rfl, Nat.le_of_ble_eq_true rfl⟩) dX11_isCovered_17 hK hP hD hS hA [] rfl (by decide) rfl rfl hl.1 (lv_room (Nat.le_of_ble_eq_true rfl)) ⟨Nat.zero_le _, Nat.zero_le _⟩ (fun (_ : Unit) => [(A_a0, .inr (11, [.int v_a0_lands, .int v_a0_wide, .int v_a0_pace, .int v_a0_age, .int v_a0_slitM, .int v_a0_slitA, .int v_a0_slitB, .int v_a0_year, .ref A_a0_is, .ref A_a0_sightLand, .ref A_a0_sightYear, .ref A_a0_sightCovered, .int v_a0_sights, .ref A_a0_pad, .int v_a0_padMany, .ref A_a0_act, .ref A_a0_from, .ref A_a0_to, .ref A_a0_much, .int v_a0_acts, .int v_a0_hungers, .ref A_a0_hungryIn, .ref A_a0_had, .int v_a0_hadYear, .int v_a0_badAct, .int v_a0_badWhy, .int v_a0_years, .ref A_a0_leaves, .int v_a0_yearThen, .ref A_a0_steps, .ref A_a0_nextSteps, .ref A_a0_waysTo, .ref A_a0_nextWays, .int v_a0_lawMany, .ref A_a0_covering, .ref A_a0_kept, .ref A_a0_isKept, .int v_a0_keptAt, .int v_a0_isWriting]))]) (fun _ => rfl) (fun _ => rfl) (fun u2 H locs hP hD hS => ?_)
  refine lv_istore_n (lv' := [(3, .int x1), (0, .ref A_a0), (1, .int p1), (2, .int p2)]) hx hb dX11_isCovered_20 rfl hl (by decide) rfl (fun ls hl => ?_)
  refine lv_iload_n hx hb dX11_isCovered_21 rfl (lv_at hl 2 rfl) ?_
  refine lv_iload_n hx hb dX11_isCovered_22 rfl (lv_at hl 0 rfl) ?_
  refine lv_icmp_lt (tgt := 40) hx hb dX11_isCovered_23 (by decide) (fun hc => ?_) (fun hc => ?_)
  · have h := rs_pos hc h
    refine lv_iconst (v := 0) hx hb dX11_isCovered_40 (by decide) ?_
    exact ret _ () _ _ _ _ h hP hS dX11_isCovered_41 rfl
  have h := rs_neg hc h
  refine lv_iload_n hx hb dX11_isCovered_26 rfl (lv_at hl 2 rfl) ?_
  refine lv_iload_n hx hb dX11_isCovered_27 rfl (lv_at hl 0 rfl) ?_
  refine lv_aload_n hx hb dX11_isCovered_28 rfl (lv_at hl 1 rfl) ?_
  refine va_get (D := G.1) (ci := 11) (v := .int v_a0_wide) (C := RX11) (T := TX11) (N := 39) hx hb hts uX11_isCovered_11 hown hK.1 hP 0 rfl rfl 1 (by decide) (hts (.fieldLink RX11 86 "RingShadowModel" "wide" "I") (List.mem_of_getElem? (i := 2) rfl)) (fun _ h9 => h9) rfl dX11_isCovered_29 ?_
  refine lv_iadd hx hb dX11_isCovered_32 ?_
  refine lv_icmp_ge (tgt := 40) hx hb dX11_isCovered_33 (by decide) (fun hc => ?_) (fun hc => ?_)
  · have h := rs_pos hc h
    refine lv_iconst (v := 0) hx hb dX11_isCovered_40 (by decide) ?_
    exact ret _ () _ _ _ _ h hP hS dX11_isCovered_41 rfl
  have h := rs_neg hc h
  refine lv_iconst (v := 1) hx hb dX11_isCovered_36 (by decide) ?_
  refine lv_goto (tgt := 41) hx hb dX11_isCovered_37 (by decide) ?_
  exact ret _ () _ _ _ _ h hP hS dX11_isCovered_41 rfl
theorem uX11_isSlit_11 : ∀ w ∈ wsX110, w ∈ wsX11_isSlit := fun _ h => List.mem_cons_of_mem _ (List.mem_append_right _ h)
abbrev rmX11_isSlit : Room := { frames := 0, cells := 0, slots := 0, locals := 0 }
set_option maxRecDepth 100000 in
set_option maxHeartbeats 4000000 in
theorem c_X11_isSlit (l : Launch) (G : rs_G) (A_a0 : Nat) (A_a0_is : Nat) (A_a0_sightLand : Nat) (A_a0_sightYear : Nat) (A_a0_sightCovered : Nat) (A_a0_pad : Nat) (A_a0_act : Nat) (A_a0_from : Nat) (A_a0_to : Nat) (A_a0_much : Nat) (A_a0_hungryIn : Nat) (A_a0_had : Nat) (A_a0_leaves : Nat) (A_a0_steps : Nat) (A_a0_nextSteps : Nat) (A_a0_waysTo : Nat) (A_a0_nextWays : Nat) (A_a0_covering : Nat) (A_a0_kept : Nat) (A_a0_isKept : Nat) (v_a0_lands : Int32) (v_a0_wide : Int32) (v_a0_pace : Int32) (v_a0_age : Int32) (v_a0_slitM : Int32) (v_a0_slitA : Int32) (v_a0_slitB : Int32) (v_a0_year : Int32) (v_a0_sights : Int32) (v_a0_padMany : Int32) (v_a0_acts : Int32) (v_a0_hungers : Int32) (v_a0_hadYear : Int32) (v_a0_badAct : Int32) (v_a0_badWhy : Int32) (v_a0_years : Int32) (v_a0_yearThen : Int32) (v_a0_lawMany : Int32) (v_a0_keptAt : Int32) (v_a0_isWriting : Int32) (p1 : Int32) (p2 : Int32) (r0 : Int32) (h : f_X11_isSlit p1 p2 v_a0_slitM v_a0_slitA v_a0_slitB = some r0) : rs_Ci l yX11_isSlit wsX11_isSlit rmX11_isSlit G [.ref A_a0, .int p1, .int p2] [(A_a0, .inr (11, [.int v_a0_lands, .int v_a0_wide, .int v_a0_pace, .int v_a0_age, .int v_a0_slitM, .int v_a0_slitA, .int v_a0_slitB, .int v_a0_year, .ref A_a0_is, .ref A_a0_sightLand, .ref A_a0_sightYear, .ref A_a0_sightCovered, .int v_a0_sights, .ref A_a0_pad, .int v_a0_padMany, .ref A_a0_act, .ref A_a0_from, .ref A_a0_to, .ref A_a0_much, .int v_a0_acts, .int v_a0_hungers, .ref A_a0_hungryIn, .ref A_a0_had, .int v_a0_hadYear, .int v_a0_badAct, .int v_a0_badWhy, .int v_a0_years, .ref A_a0_leaves, .int v_a0_yearThen, .ref A_a0_steps, .ref A_a0_nextSteps, .ref A_a0_waysTo, .ref A_a0_nextWays, .int v_a0_lawMany, .ref A_a0_covering, .ref A_a0_kept, .ref A_a0_isKept, .int v_a0_keptAt, .int v_a0_isWriting]))] (fun (_ : Unit) => [(A_a0, .inr (11, [.int v_a0_lands, .int v_a0_wide, .int v_a0_pace, .int v_a0_age, .int v_a0_slitM, .int v_a0_slitA, .int v_a0_slitB, .int v_a0_year, .ref A_a0_is, .ref A_a0_sightLand, .ref A_a0_sightYear, .ref A_a0_sightCovered, .int v_a0_sights, .ref A_a0_pad, .int v_a0_padMany, .ref A_a0_act, .ref A_a0_from, .ref A_a0_to, .ref A_a0_much, .int v_a0_acts, .int v_a0_hungers, .ref A_a0_hungryIn, .ref A_a0_had, .int v_a0_hadYear, .int v_a0_badAct, .int v_a0_badWhy, .int v_a0_years, .ref A_a0_leaves, .int v_a0_yearThen, .ref A_a0_steps, .ref A_a0_nextSteps, .ref A_a0_waysTo, .ref A_a0_nextWays, .int v_a0_lawMany, .ref A_a0_covering, .ref A_a0_kept, .ref A_a0_isKept, .int v_a0_keptAt, .int v_a0_isWriting]))]) r0 := by
  refine rs_enter_i (cc := cX11_isSlit) (maxL := 3) (ty := .boolean) (by decide) rfl (Nat.le_of_ble_eq_true rfl) (fun p e s m args below meth c A Q ls E ret hP hD hS hA hl => ?_)
  obtain ⟨hx, hb, hml, hown, hts, hK⟩ := E
  have hown : s.vm.findClass RX11 = some m.cls := hown
  have hl : lv_has ls 3 [(0, .ref A_a0), (1, .int p1), (2, .int p2)] := hl
  have ret : ∀ (v0 : Int32) (u : Unit) (H : Heap) (locs : List Loc) (pc : Nat) (ls : Array Slot), some v0 = some r0 → va_P G.1 vwCl [(A_a0, .inr (11, [.int v_a0_lands, .int v_a0_wide, .int v_a0_pace, .int v_a0_age, .int v_a0_slitM, .int v_a0_slitA, .int v_a0_slitB, .int v_a0_year, .ref A_a0_is, .ref A_a0_sightLand, .ref A_a0_sightYear, .ref A_a0_sightCovered, .int v_a0_sights, .ref A_a0_pad, .int v_a0_padMany, .ref A_a0_act, .ref A_a0_from, .ref A_a0_to, .ref A_a0_much, .int v_a0_acts, .int v_a0_hungers, .ref A_a0_hungryIn, .ref A_a0_had, .int v_a0_hadYear, .int v_a0_badAct, .int v_a0_badWhy, .int v_a0_years, .ref A_a0_leaves, .int v_a0_yearThen, .ref A_a0_steps, .ref A_a0_nextSteps, .ref A_a0_waysTo, .ref A_a0_nextWays, .int v_a0_lawMany, .ref A_a0_covering, .ref A_a0_kept, .ref A_a0_isKept, .int v_a0_keptAt, .int v_a0_isWriting]))] H → va_S A s.heap H locs → decode cX11_isSlit pc = .ok (.ireturn, 1) → narrow .boolean (.int v0) = .int v0 → W p l e rmX11_isSlit s m args below meth c H locs 0 0 Q (F0 m pc ls [.int v0]) := by
    intro v0 u H locs pc ls hz
    cases hz
    exact ret u H locs pc ls
  unfold f_X11_isSlit at h
  refine lv_aload_n hx hb dX11_isSlit_0 rfl (lv_at hl 0 rfl) ?_
  refine va_get (D := G.1) (ci := 11) (v := .int v_a0_slitM) (C := RX11) (T := TX11) (N := 39) hx hb hts uX11_isSlit_11 hown hK.1 hP 0 rfl rfl 4 (by decide) (hts (.fieldLink RX11 118 "RingShadowModel" "slitM" "I") (List.mem_of_getElem? (i := 1) rfl)) (fun _ h9 => h9) rfl dX11_isSlit_1 ?_
  refine lv_if_le (tgt := 39) hx hb dX11_isSlit_4 (by decide) (fun hc => ?_) (fun hc => ?_)
  · have h := rs_pos hc h
    refine lv_iconst (v := 0) hx hb dX11_isSlit_39 (by decide) ?_
    exact ret _ () _ _ _ _ h hP hS dX11_isSlit_40 rfl
  have h := rs_neg hc h
  refine lv_iload_n hx hb dX11_isSlit_7 rfl (lv_at hl 2 rfl) ?_
  refine lv_i2l (v := (p2.toInt64)) hx hb dX11_isSlit_8 rfl ?_
  refine lv_aload_n hx hb dX11_isSlit_9 rfl (lv_at hl 0 rfl) ?_
  refine va_get (D := G.1) (ci := 11) (v := .int v_a0_slitA) (C := RX11) (T := TX11) (N := 39) hx hb hts uX11_isSlit_11 hown hK.1 hP 0 rfl rfl 5 (by decide) (hts (.fieldLink RX11 73 "RingShadowModel" "slitA" "I") (List.mem_of_getElem? (i := 2) rfl)) (fun _ h9 => h9) rfl dX11_isSlit_10 ?_
  refine lv_i2l (v := (v_a0_slitA.toInt64)) hx hb dX11_isSlit_13 rfl ?_
  refine lv_lmul hx hb dX11_isSlit_14 ?_
  refine lv_iload_n hx hb dX11_isSlit_15 rfl (lv_at hl 1 rfl) ?_
  refine lv_i2l (v := (p1.toInt64)) hx hb dX11_isSlit_16 rfl ?_
  refine lv_aload_n hx hb dX11_isSlit_17 rfl (lv_at hl 0 rfl) ?_
  refine va_get (D := G.1) (ci := 11) (v := .int v_a0_slitB) (C := RX11) (T := TX11) (N := 39) hx hb hts uX11_isSlit_11 hown hK.1 hP 0 rfl rfl 6 (by decide) (hts (.fieldLink RX11 76 "RingShadowModel" "slitB" "I") (List.mem_of_getElem? (i := 3) rfl)) (fun _ h9 => h9) rfl dX11_isSlit_18 ?_
  refine lv_i2l (v := (v_a0_slitB.toInt64)) hx hb dX11_isSlit_21 rfl ?_
  refine lv_lmul hx hb dX11_isSlit_22 ?_
  refine lv_ladd hx hb dX11_isSlit_23 ?_
  refine lv_aload_n hx hb dX11_isSlit_24 rfl (lv_at hl 0 rfl) ?_
  refine va_get (D := G.1) (ci := 11) (v := .int v_a0_slitM) (C := RX11) (T := TX11) (N := 39) hx hb hts uX11_isSlit_11 hown hK.1 hP 0 rfl rfl 4 (by decide) (hts (.fieldLink RX11 118 "RingShadowModel" "slitM" "I") (List.mem_of_getElem? (i := 1) rfl)) (fun _ h9 => h9) rfl dX11_isSlit_25 ?_
  refine lv_i2l (v := (v_a0_slitM.toInt64)) hx hb dX11_isSlit_28 rfl ?_
  obtain ⟨hg, h⟩ := rs_gd h
  refine lv_lrem hx hb dX11_isSlit_29 hg ?_
  refine lv_lconst (v := 0) hx hb dX11_isSlit_30 (by decide) ?_
  refine W.lcmp hx hb dX11_isSlit_31 ?_
  refine lv_if_ne (tgt := 39) hx hb dX11_isSlit_32 (by decide) (fun hc => ?_) (fun hc => ?_)
  · have h := rs_neg hc h
    refine lv_iconst (v := 0) hx hb dX11_isSlit_39 (by decide) ?_
    exact ret _ () _ _ _ _ h hP hS dX11_isSlit_40 rfl
  have h := rs_pos hc h
  refine lv_iconst (v := 1) hx hb dX11_isSlit_35 (by decide) ?_
  refine lv_goto (tgt := 40) hx hb dX11_isSlit_36 (by decide) ?_
  exact ret _ () _ _ _ _ h hP hS dX11_isSlit_40 rfl
abbrev rmX11_isLit : Room := { frames := 2, cells := 0, slots := 0, locals := 49 }
set_option maxRecDepth 100000 in
set_option maxHeartbeats 4000000 in
theorem c_X11_isLit (l : Launch) (G : rs_G) (A_a0 : Nat) (A_a0_is : Nat) (A_a0_sightLand : Nat) (A_a0_sightYear : Nat) (A_a0_sightCovered : Nat) (A_a0_pad : Nat) (A_a0_act : Nat) (A_a0_from : Nat) (A_a0_to : Nat) (A_a0_much : Nat) (A_a0_hungryIn : Nat) (A_a0_had : Nat) (A_a0_leaves : Nat) (A_a0_steps : Nat) (A_a0_nextSteps : Nat) (A_a0_waysTo : Nat) (A_a0_nextWays : Nat) (A_a0_covering : Nat) (A_a0_kept : Nat) (A_a0_isKept : Nat) (v_a0_lands : Int32) (v_a0_wide : Int32) (v_a0_pace : Int32) (v_a0_age : Int32) (v_a0_slitM : Int32) (v_a0_slitA : Int32) (v_a0_slitB : Int32) (v_a0_year : Int32) (v_a0_sights : Int32) (v_a0_padMany : Int32) (v_a0_acts : Int32) (v_a0_hungers : Int32) (v_a0_hadYear : Int32) (v_a0_badAct : Int32) (v_a0_badWhy : Int32) (v_a0_years : Int32) (v_a0_yearThen : Int32) (v_a0_lawMany : Int32) (v_a0_keptAt : Int32) (v_a0_isWriting : Int32) (p1 : Int32) (p2 : Int32) (r0 : Int32) (h : f_X11_isLit p1 p2 v_a0_lands v_a0_wide v_a0_pace v_a0_age v_a0_slitM v_a0_slitA v_a0_slitB = some r0) : rs_Ci l yX11_isLit wsX11_isLit rmX11_isLit G [.ref A_a0, .int p1, .int p2] [(A_a0, .inr (11, [.int v_a0_lands, .int v_a0_wide, .int v_a0_pace, .int v_a0_age, .int v_a0_slitM, .int v_a0_slitA, .int v_a0_slitB, .int v_a0_year, .ref A_a0_is, .ref A_a0_sightLand, .ref A_a0_sightYear, .ref A_a0_sightCovered, .int v_a0_sights, .ref A_a0_pad, .int v_a0_padMany, .ref A_a0_act, .ref A_a0_from, .ref A_a0_to, .ref A_a0_much, .int v_a0_acts, .int v_a0_hungers, .ref A_a0_hungryIn, .ref A_a0_had, .int v_a0_hadYear, .int v_a0_badAct, .int v_a0_badWhy, .int v_a0_years, .ref A_a0_leaves, .int v_a0_yearThen, .ref A_a0_steps, .ref A_a0_nextSteps, .ref A_a0_waysTo, .ref A_a0_nextWays, .int v_a0_lawMany, .ref A_a0_covering, .ref A_a0_kept, .ref A_a0_isKept, .int v_a0_keptAt, .int v_a0_isWriting]))] (fun (_ : Unit) => [(A_a0, .inr (11, [.int v_a0_lands, .int v_a0_wide, .int v_a0_pace, .int v_a0_age, .int v_a0_slitM, .int v_a0_slitA, .int v_a0_slitB, .int v_a0_year, .ref A_a0_is, .ref A_a0_sightLand, .ref A_a0_sightYear, .ref A_a0_sightCovered, .int v_a0_sights, .ref A_a0_pad, .int v_a0_padMany, .ref A_a0_act, .ref A_a0_from, .ref A_a0_to, .ref A_a0_much, .int v_a0_acts, .int v_a0_hungers, .ref A_a0_hungryIn, .ref A_a0_had, .int v_a0_hadYear, .int v_a0_badAct, .int v_a0_badWhy, .int v_a0_years, .ref A_a0_leaves, .int v_a0_yearThen, .ref A_a0_steps, .ref A_a0_nextSteps, .ref A_a0_waysTo, .ref A_a0_nextWays, .int v_a0_lawMany, .ref A_a0_covering, .ref A_a0_kept, .ref A_a0_isKept, .int v_a0_keptAt, .int v_a0_isWriting]))]) r0 := by
  refine rs_enter_i (cc := cX11_isLit) (maxL := 3) (ty := .boolean) (by decide) rfl (Nat.le_of_ble_eq_true rfl) (fun p e s m args below meth c A Q ls E ret hP hD hS hA hl => ?_)
  obtain ⟨hx, hb, hml, hown, hts, hK⟩ := E
  have hown : s.vm.findClass RX11 = some m.cls := hown
  have hl : lv_has ls 3 [(0, .ref A_a0), (1, .int p1), (2, .int p2)] := hl
  have ret : ∀ (v0 : Int32) (u : Unit) (H : Heap) (locs : List Loc) (pc : Nat) (ls : Array Slot), some v0 = some r0 → va_P G.1 vwCl [(A_a0, .inr (11, [.int v_a0_lands, .int v_a0_wide, .int v_a0_pace, .int v_a0_age, .int v_a0_slitM, .int v_a0_slitA, .int v_a0_slitB, .int v_a0_year, .ref A_a0_is, .ref A_a0_sightLand, .ref A_a0_sightYear, .ref A_a0_sightCovered, .int v_a0_sights, .ref A_a0_pad, .int v_a0_padMany, .ref A_a0_act, .ref A_a0_from, .ref A_a0_to, .ref A_a0_much, .int v_a0_acts, .int v_a0_hungers, .ref A_a0_hungryIn, .ref A_a0_had, .int v_a0_hadYear, .int v_a0_badAct, .int v_a0_badWhy, .int v_a0_years, .ref A_a0_leaves, .int v_a0_yearThen, .ref A_a0_steps, .ref A_a0_nextSteps, .ref A_a0_waysTo, .ref A_a0_nextWays, .int v_a0_lawMany, .ref A_a0_covering, .ref A_a0_kept, .ref A_a0_isKept, .int v_a0_keptAt, .int v_a0_isWriting]))] H → va_S A s.heap H locs → decode cX11_isLit pc = .ok (.ireturn, 1) → narrow .boolean (.int v0) = .int v0 → W p l e rmX11_isLit s m args below meth c H locs 0 0 Q (F0 m pc ls [.int v0]) := by
    intro v0 u H locs pc ls hz
    cases hz
    exact ret u H locs pc ls
  unfold f_X11_isLit at h
  refine lv_aload_n hx hb dX11_isLit_0 rfl (lv_at hl 0 rfl) ?_
  refine lv_iload_n hx hb dX11_isLit_1 rfl (lv_at hl 1 rfl) ?_
  refine lv_iload_n hx hb dX11_isLit_2 rfl (lv_at hl 2 rfl) ?_
  obtain ⟨x1, h2, h⟩ := rs_b1s h
  have h := h _ rfl
  refine rs_callVi (As := [.int p1, .int p2]) (rest := []) ⟨hx, hb, hml, hown, hts⟩ (c_X11_isCovered l G A_a0 A_a0_is A_a0_sightLand A_a0_sightYear A_a0_sightCovered A_a0_pad A_a0_act A_a0_from A_a0_to A_a0_much A_a0_hungryIn A_a0_had A_a0_leaves A_a0_steps A_a0_nextSteps A_a0_waysTo A_a0_nextWays A_a0_covering A_a0_kept A_a0_isKept v_a0_lands v_a0_wide v_a0_pace v_a0_age v_a0_slitM v_a0_slitA v_a0_slitB v_a0_year v_a0_sights v_a0_padMany v_a0_acts v_a0_hungers v_a0_hadYear v_a0_badAct v_a0_badWhy v_a0_years v_a0_yearThen v_a0_lawMany v_a0_keptAt v_a0_isWriting p1 p2 x1 h2) (cwV 2 hts gX11_isLit_X11_isCovered rfl rfl rfl (by decide +kernel) ⟨Nat.le_of_ble_eq_true rfl, Nat.le_of_ble_eq_true rfl⟩) dX11_isLit_3 hK hP hD hS hA [0] rfl (by decide) rfl rfl (q0 := 0) (ci := 11) rfl rfl rfl hl.1 (lv_room (Nat.le_of_ble_eq_true rfl)) ⟨Nat.zero_le _, Nat.zero_le _⟩ (fun (_ : Unit) => [(A_a0, .inr (11, [.int v_a0_lands, .int v_a0_wide, .int v_a0_pace, .int v_a0_age, .int v_a0_slitM, .int v_a0_slitA, .int v_a0_slitB, .int v_a0_year, .ref A_a0_is, .ref A_a0_sightLand, .ref A_a0_sightYear, .ref A_a0_sightCovered, .int v_a0_sights, .ref A_a0_pad, .int v_a0_padMany, .ref A_a0_act, .ref A_a0_from, .ref A_a0_to, .ref A_a0_much, .int v_a0_acts, .int v_a0_hungers, .ref A_a0_hungryIn, .ref A_a0_had, .int v_a0_hadYear, .int v_a0_badAct, .int v_a0_badWhy, .int v_a0_years, .ref A_a0_leaves, .int v_a0_yearThen, .ref A_a0_steps, .ref A_a0_nextSteps, .ref A_a0_waysTo, .ref A_a0_nextWays, .int v_a0_lawMany, .ref A_a0_covering, .ref A_a0_kept, .ref A_a0_isKept, .int v_a0_keptAt, .int v_a0_isWriting]))]) (fun _ => rfl) (fun _ => rfl) (fun u2 H locs hP hD hS => ?_)
  refine lv_if_eq (tgt := 18) hx hb dX11_isLit_6 (by decide) (fun hc => ?_) (fun hc => ?_)
  · have h := rs_pos hc h
    refine lv_iconst (v := 1) hx hb dX11_isLit_18 (by decide) ?_
    refine lv_goto (tgt := 23) hx hb dX11_isLit_19 (by decide) ?_
    exact ret _ () _ _ _ _ h hP hS dX11_isLit_23 rfl
  have h := rs_neg hc h
  refine lv_aload_n hx hb dX11_isLit_9 rfl (lv_at hl 0 rfl) ?_
  refine lv_iload_n hx hb dX11_isLit_10 rfl (lv_at hl 1 rfl) ?_
  refine lv_iload_n hx hb dX11_isLit_11 rfl (lv_at hl 2 rfl) ?_
  obtain ⟨x3, h4, h⟩ := rs_b1s h
  have h := h _ rfl
  refine rs_callVi (As := [.int p1, .int p2]) (rest := []) ⟨hx, hb, hml, hown, hts⟩ (c_X11_isSlit l G A_a0 A_a0_is A_a0_sightLand A_a0_sightYear A_a0_sightCovered A_a0_pad A_a0_act A_a0_from A_a0_to A_a0_much A_a0_hungryIn A_a0_had A_a0_leaves A_a0_steps A_a0_nextSteps A_a0_waysTo A_a0_nextWays A_a0_covering A_a0_kept A_a0_isKept v_a0_lands v_a0_wide v_a0_pace v_a0_age v_a0_slitM v_a0_slitA v_a0_slitB v_a0_year v_a0_sights v_a0_padMany v_a0_acts v_a0_hungers v_a0_hadYear v_a0_badAct v_a0_badWhy v_a0_years v_a0_yearThen v_a0_lawMany v_a0_keptAt v_a0_isWriting p1 p2 x3 h4) (cwV 2 hts gX11_isLit_X11_isSlit rfl rfl rfl (by decide +kernel) ⟨Nat.le_of_ble_eq_true rfl, Nat.le_of_ble_eq_true rfl⟩) dX11_isLit_12 hK hP hD hS hA [0] rfl (by decide) rfl rfl (q0 := 0) (ci := 11) rfl rfl rfl hl.1 (lv_room (Nat.le_of_ble_eq_true rfl)) ⟨Nat.zero_le _, Nat.zero_le _⟩ (fun (_ : Unit) => [(A_a0, .inr (11, [.int v_a0_lands, .int v_a0_wide, .int v_a0_pace, .int v_a0_age, .int v_a0_slitM, .int v_a0_slitA, .int v_a0_slitB, .int v_a0_year, .ref A_a0_is, .ref A_a0_sightLand, .ref A_a0_sightYear, .ref A_a0_sightCovered, .int v_a0_sights, .ref A_a0_pad, .int v_a0_padMany, .ref A_a0_act, .ref A_a0_from, .ref A_a0_to, .ref A_a0_much, .int v_a0_acts, .int v_a0_hungers, .ref A_a0_hungryIn, .ref A_a0_had, .int v_a0_hadYear, .int v_a0_badAct, .int v_a0_badWhy, .int v_a0_years, .ref A_a0_leaves, .int v_a0_yearThen, .ref A_a0_steps, .ref A_a0_nextSteps, .ref A_a0_waysTo, .ref A_a0_nextWays, .int v_a0_lawMany, .ref A_a0_covering, .ref A_a0_kept, .ref A_a0_isKept, .int v_a0_keptAt, .int v_a0_isWriting]))]) (fun _ => rfl) (fun _ => rfl) (fun u4 H locs hP hD hS => ?_)
  refine lv_if_eq (tgt := 22) hx hb dX11_isLit_15 (by decide) (fun hc => ?_) (fun hc => ?_)
  · have h := rs_pos hc h
    refine lv_iconst (v := 0) hx hb dX11_isLit_22 (by decide) ?_
    exact ret _ () _ _ _ _ h hP hS dX11_isLit_23 rfl
  have h := rs_neg hc h
  refine lv_iconst (v := 1) hx hb dX11_isLit_18 (by decide) ?_
  refine lv_goto (tgt := 23) hx hb dX11_isLit_19 (by decide) ?_
  exact ret _ () _ _ _ _ h hP hS dX11_isLit_23 rfl
theorem uX11_eats_11 : ∀ w ∈ wsX110, w ∈ wsX11_eats := fun _ h => List.mem_cons_of_mem _ (List.mem_append_right _ h)
abbrev rmX11_eats : Room := { frames := 1, cells := 0, slots := 0, locals := 21 }
set_option maxRecDepth 100000 in
set_option maxHeartbeats 4000000 in
theorem c_X11_eats (l : Launch) (G : rs_G) (A_a0 : Nat) (A_a0_is : Nat) (A_a0_sightLand : Nat) (A_a0_sightYear : Nat) (A_a0_sightCovered : Nat) (A_a0_pad : Nat) (A_a0_act : Nat) (A_a0_from : Nat) (A_a0_to : Nat) (A_a0_much : Nat) (A_a0_hungryIn : Nat) (A_a0_had : Nat) (A_a0_leaves : Nat) (A_a0_steps : Nat) (A_a0_nextSteps : Nat) (A_a0_waysTo : Nat) (A_a0_nextWays : Nat) (A_a0_covering : Nat) (A_a0_kept : Nat) (A_a0_isKept : Nat) (v_a0_lands : Int32) (v_a0_wide : Int32) (v_a0_pace : Int32) (v_a0_age : Int32) (v_a0_slitM : Int32) (v_a0_slitA : Int32) (v_a0_slitB : Int32) (v_a0_year : Int32) (v_a0_sights : Int32) (v_a0_padMany : Int32) (v_a0_acts : Int32) (v_a0_hungers : Int32) (v_a0_hadYear : Int32) (v_a0_badAct : Int32) (v_a0_badWhy : Int32) (v_a0_years : Int32) (v_a0_yearThen : Int32) (v_a0_lawMany : Int32) (v_a0_keptAt : Int32) (v_a0_isWriting : Int32) (v_a0_is : (Nat → Int32)) (p1 : Int32) (p2 : Int32) (r0 : Int32) (o0 : (Nat → Int32)) (h : f_X11_eats p1 p2 v_a0_is = some (r0, o0)) : rs_Ci l yX11_eats wsX11_eats rmX11_eats G [.ref A_a0, .int p1, .int p2] [(A_a0, .inr (11, [.int v_a0_lands, .int v_a0_wide, .int v_a0_pace, .int v_a0_age, .int v_a0_slitM, .int v_a0_slitA, .int v_a0_slitB, .int v_a0_year, .ref A_a0_is, .ref A_a0_sightLand, .ref A_a0_sightYear, .ref A_a0_sightCovered, .int v_a0_sights, .ref A_a0_pad, .int v_a0_padMany, .ref A_a0_act, .ref A_a0_from, .ref A_a0_to, .ref A_a0_much, .int v_a0_acts, .int v_a0_hungers, .ref A_a0_hungryIn, .ref A_a0_had, .int v_a0_hadYear, .int v_a0_badAct, .int v_a0_badWhy, .int v_a0_years, .ref A_a0_leaves, .int v_a0_yearThen, .ref A_a0_steps, .ref A_a0_nextSteps, .ref A_a0_waysTo, .ref A_a0_nextWays, .int v_a0_lawMany, .ref A_a0_covering, .ref A_a0_kept, .ref A_a0_isKept, .int v_a0_keptAt, .int v_a0_isWriting])), (A_a0_is, .inl (G.2.1, 36, .inl v_a0_is))] (fun (_ : Unit) => [(A_a0, .inr (11, [.int v_a0_lands, .int v_a0_wide, .int v_a0_pace, .int v_a0_age, .int v_a0_slitM, .int v_a0_slitA, .int v_a0_slitB, .int v_a0_year, .ref A_a0_is, .ref A_a0_sightLand, .ref A_a0_sightYear, .ref A_a0_sightCovered, .int v_a0_sights, .ref A_a0_pad, .int v_a0_padMany, .ref A_a0_act, .ref A_a0_from, .ref A_a0_to, .ref A_a0_much, .int v_a0_acts, .int v_a0_hungers, .ref A_a0_hungryIn, .ref A_a0_had, .int v_a0_hadYear, .int v_a0_badAct, .int v_a0_badWhy, .int v_a0_years, .ref A_a0_leaves, .int v_a0_yearThen, .ref A_a0_steps, .ref A_a0_nextSteps, .ref A_a0_waysTo, .ref A_a0_nextWays, .int v_a0_lawMany, .ref A_a0_covering, .ref A_a0_kept, .ref A_a0_isKept, .int v_a0_keptAt, .int v_a0_isWriting])), (A_a0_is, .inl (G.2.1, 36, .inl o0))]) r0 := by
  refine rs_enter_i (cc := cX11_eats) (maxL := 7) (ty := .boolean) (by decide) rfl (Nat.le_of_ble_eq_true rfl) (fun p e s m args below meth c A Q ls E ret hP hD hS hA hl => ?_)
  obtain ⟨hx, hb, hml, hown, hts, hK⟩ := E
  have hown : s.vm.findClass RX11 = some m.cls := hown
  have hl : lv_has ls 7 [(0, .ref A_a0), (1, .int p1), (2, .int p2)] := hl
  have ret : ∀ (v0 : Int32) (w0 : (Nat → Int32)) (u : Unit) (H : Heap) (locs : List Loc) (pc : Nat) (ls : Array Slot), some (v0, w0) = some (r0, o0) → va_P G.1 vwCl [(A_a0, .inr (11, [.int v_a0_lands, .int v_a0_wide, .int v_a0_pace, .int v_a0_age, .int v_a0_slitM, .int v_a0_slitA, .int v_a0_slitB, .int v_a0_year, .ref A_a0_is, .ref A_a0_sightLand, .ref A_a0_sightYear, .ref A_a0_sightCovered, .int v_a0_sights, .ref A_a0_pad, .int v_a0_padMany, .ref A_a0_act, .ref A_a0_from, .ref A_a0_to, .ref A_a0_much, .int v_a0_acts, .int v_a0_hungers, .ref A_a0_hungryIn, .ref A_a0_had, .int v_a0_hadYear, .int v_a0_badAct, .int v_a0_badWhy, .int v_a0_years, .ref A_a0_leaves, .int v_a0_yearThen, .ref A_a0_steps, .ref A_a0_nextSteps, .ref A_a0_waysTo, .ref A_a0_nextWays, .int v_a0_lawMany, .ref A_a0_covering, .ref A_a0_kept, .ref A_a0_isKept, .int v_a0_keptAt, .int v_a0_isWriting])), (A_a0_is, .inl (G.2.1, 36, .inl w0))] H → va_S A s.heap H locs → decode cX11_eats pc = .ok (.ireturn, 1) → narrow .boolean (.int v0) = .int v0 → W p l e rmX11_eats s m args below meth c H locs 0 0 Q (F0 m pc ls [.int v0]) := by
    intro v0 w0 u H locs pc ls hz
    cases hz
    exact ret u H locs pc ls
  unfold f_X11_eats at h
  refine lv_aload_n hx hb dX11_eats_0 rfl (lv_at hl 0 rfl) ?_
  refine va_get (D := G.1) (ci := 11) (v := .ref A_a0_is) (C := RX11) (T := TX11) (N := 39) hx hb hts uX11_eats_11 hown hK.1 hP 0 rfl rfl 8 (by decide) (hts (.fieldLink RX11 7 "RingShadowModel" "is" "[I") (List.mem_of_getElem? (i := 1) rfl)) (fun _ h9 => h9) rfl dX11_eats_1 ?_
  refine lv_iconst (v := 2) hx hb dX11_eats_4 (by decide) ?_
  refine lv_iload_n hx hb dX11_eats_5 rfl (lv_at hl 1 rfl) ?_
  obtain ⟨x1, h2, h⟩ := rs_b1s h
  have h := h _ rfl
  refine rs_callSi (As := [.int 2, .int p1]) (rest := [.ref A_a0_is]) ⟨hx, hb, hml, hown, hts⟩ (c_X11_at l G 2 p1 x1 h2) (va_cwS 2 hts gX11_eats_X11_at rfl rfl rfl (by decide +kernel) ⟨Nat.le_of_ble_eq_true rfl, Nat.le_of_ble_eq_true rfl⟩) dX11_eats_6 hK hP hD hS hA [] rfl (by decide) rfl rfl hl.1 (lv_room (Nat.le_of_ble_eq_true rfl)) ⟨Nat.zero_le _, Nat.zero_le _⟩ (fun (_ : Unit) => [(A_a0, .inr (11, [.int v_a0_lands, .int v_a0_wide, .int v_a0_pace, .int v_a0_age, .int v_a0_slitM, .int v_a0_slitA, .int v_a0_slitB, .int v_a0_year, .ref A_a0_is, .ref A_a0_sightLand, .ref A_a0_sightYear, .ref A_a0_sightCovered, .int v_a0_sights, .ref A_a0_pad, .int v_a0_padMany, .ref A_a0_act, .ref A_a0_from, .ref A_a0_to, .ref A_a0_much, .int v_a0_acts, .int v_a0_hungers, .ref A_a0_hungryIn, .ref A_a0_had, .int v_a0_hadYear, .int v_a0_badAct, .int v_a0_badWhy, .int v_a0_years, .ref A_a0_leaves, .int v_a0_yearThen, .ref A_a0_steps, .ref A_a0_nextSteps, .ref A_a0_waysTo, .ref A_a0_nextWays, .int v_a0_lawMany, .ref A_a0_covering, .ref A_a0_kept, .ref A_a0_isKept, .int v_a0_keptAt, .int v_a0_isWriting])), (A_a0_is, .inl (G.2.1, 36, .inl v_a0_is))]) (fun _ => rfl) (fun _ => rfl) (fun u2 H locs hP hD hS => ?_)
  obtain ⟨hg, h⟩ := rs_gd h
  refine va_iald hx hb hK.1 hP 1 0 rfl rfl hg dX11_eats_9 ?_
  refine lv_iload_n hx hb dX11_eats_10 rfl (lv_at hl 2 rfl) ?_
  obtain ⟨X6, hX6, h⟩ := rs_b1s h
  have J6 : ∀ (x5 : Int32), X6 = x5 → ∀ (H : Heap) (locs : List Loc) (ls : Array Slot), va_P G.1 vwCl [(A_a0, .inr (11, [.int v_a0_lands, .int v_a0_wide, .int v_a0_pace, .int v_a0_age, .int v_a0_slitM, .int v_a0_slitA, .int v_a0_slitB, .int v_a0_year, .ref A_a0_is, .ref A_a0_sightLand, .ref A_a0_sightYear, .ref A_a0_sightCovered, .int v_a0_sights, .ref A_a0_pad, .int v_a0_padMany, .ref A_a0_act, .ref A_a0_from, .ref A_a0_to, .ref A_a0_much, .int v_a0_acts, .int v_a0_hungers, .ref A_a0_hungryIn, .ref A_a0_had, .int v_a0_hadYear, .int v_a0_badAct, .int v_a0_badWhy, .int v_a0_years, .ref A_a0_leaves, .int v_a0_yearThen, .ref A_a0_steps, .ref A_a0_nextSteps, .ref A_a0_waysTo, .ref A_a0_nextWays, .int v_a0_lawMany, .ref A_a0_covering, .ref A_a0_kept, .ref A_a0_isKept, .int v_a0_keptAt, .int v_a0_isWriting])), (A_a0_is, .inl (G.2.1, 36, .inl v_a0_is))] H → va_D A [(A_a0, .inr (11, [.int v_a0_lands, .int v_a0_wide, .int v_a0_pace, .int v_a0_age, .int v_a0_slitM, .int v_a0_slitA, .int v_a0_slitB, .int v_a0_year, .ref A_a0_is, .ref A_a0_sightLand, .ref A_a0_sightYear, .ref A_a0_sightCovered, .int v_a0_sights, .ref A_a0_pad, .int v_a0_padMany, .ref A_a0_act, .ref A_a0_from, .ref A_a0_to, .ref A_a0_much, .int v_a0_acts, .int v_a0_hungers, .ref A_a0_hungryIn, .ref A_a0_had, .int v_a0_hadYear, .int v_a0_badAct, .int v_a0_badWhy, .int v_a0_years, .ref A_a0_leaves, .int v_a0_yearThen, .ref A_a0_steps, .ref A_a0_nextSteps, .ref A_a0_waysTo, .ref A_a0_nextWays, .int v_a0_lawMany, .ref A_a0_covering, .ref A_a0_kept, .ref A_a0_isKept, .int v_a0_keptAt, .int v_a0_isWriting])), (A_a0_is, .inl (G.2.1, 36, .inl v_a0_is))] → va_S A s.heap H locs → lv_has ls 7 [(0, .ref A_a0), (1, .int p1)] → W p l e rmX11_eats s m args below meth c H locs 0 0 Q (F0 m 28 ls [.int x5, .int (v_a0_is x1.toNatClampNeg)]) := by
    intro x5 hz H locs ls hP hD hS hl
    have h := h _ hz
    refine lv_iadd hx hb dX11_eats_28 ?_
    refine rs_topi h (fun x7 h => ?_)
    refine lv_istore_n (lv' := [(3, .int x7), (0, .ref A_a0), (1, .int p1)]) hx hb dX11_eats_29 rfl hl (by decide) rfl (fun ls hl => ?_)
    refine lv_aload_n hx hb dX11_eats_30 rfl (lv_at hl 1 rfl) ?_
    refine va_get (D := G.1) (ci := 11) (v := .ref A_a0_is) (C := RX11) (T := TX11) (N := 39) hx hb hts uX11_eats_11 hown hK.1 hP 0 rfl rfl 8 (by decide) (hts (.fieldLink RX11 7 "RingShadowModel" "is" "[I") (List.mem_of_getElem? (i := 1) rfl)) (fun _ h9 => h9) rfl dX11_eats_31 ?_
    refine lv_iconst (v := 1) hx hb dX11_eats_34 (by decide) ?_
    refine lv_iload_n hx hb dX11_eats_35 rfl (lv_at hl 2 rfl) ?_
    obtain ⟨x8, h9, h⟩ := rs_b1s h
    have h := h _ rfl
    refine rs_callSi (As := [.int 1, .int p1]) (rest := [.ref A_a0_is]) ⟨hx, hb, hml, hown, hts⟩ (c_X11_at l G 1 p1 x8 h9) (va_cwS 2 hts gX11_eats_X11_at rfl rfl rfl (by decide +kernel) ⟨Nat.le_of_ble_eq_true rfl, Nat.le_of_ble_eq_true rfl⟩) dX11_eats_36 hK hP hD hS hA [] rfl (by decide) rfl rfl hl.1 (lv_room (Nat.le_of_ble_eq_true rfl)) ⟨Nat.zero_le _, Nat.zero_le _⟩ (fun (_ : Unit) => [(A_a0, .inr (11, [.int v_a0_lands, .int v_a0_wide, .int v_a0_pace, .int v_a0_age, .int v_a0_slitM, .int v_a0_slitA, .int v_a0_slitB, .int v_a0_year, .ref A_a0_is, .ref A_a0_sightLand, .ref A_a0_sightYear, .ref A_a0_sightCovered, .int v_a0_sights, .ref A_a0_pad, .int v_a0_padMany, .ref A_a0_act, .ref A_a0_from, .ref A_a0_to, .ref A_a0_much, .int v_a0_acts, .int v_a0_hungers, .ref A_a0_hungryIn, .ref A_a0_had, .int v_a0_hadYear, .int v_a0_badAct, .int v_a0_badWhy, .int v_a0_years, .ref A_a0_leaves, .int v_a0_yearThen, .ref A_a0_steps, .ref A_a0_nextSteps, .ref A_a0_waysTo, .ref A_a0_nextWays, .int v_a0_lawMany, .ref A_a0_covering, .ref A_a0_kept, .ref A_a0_isKept, .int v_a0_keptAt, .int v_a0_isWriting])), (A_a0_is, .inl (G.2.1, 36, .inl v_a0_is))]) (fun _ => rfl) (fun _ => rfl) (fun u9 H locs hP hD hS => ?_)
    obtain ⟨hg, h⟩ := rs_gd h
    refine va_iald hx hb hK.1 hP 1 0 rfl rfl hg dX11_eats_39 ?_
    refine rs_topi h (fun x10 h => ?_)
    refine lv_istore (lv' := [(4, .int x10), (3, .int x7), (0, .ref A_a0), (1, .int p1)]) hx hb dX11_eats_40 hl (by decide) rfl (fun ls hl => ?_)
    refine lv_iload_n hx hb dX11_eats_42 rfl (lv_at hl 1 rfl) ?_
    refine lv_iload hx hb dX11_eats_43 (lv_at hl 0 rfl) ?_
    obtain ⟨X12, hX12, h⟩ := rs_b1s h
    have J12 : ∀ (x11 : Int32), X12 = x11 → ∀ (H : Heap) (locs : List Loc) (ls : Array Slot), va_P G.1 vwCl [(A_a0, .inr (11, [.int v_a0_lands, .int v_a0_wide, .int v_a0_pace, .int v_a0_age, .int v_a0_slitM, .int v_a0_slitA, .int v_a0_slitB, .int v_a0_year, .ref A_a0_is, .ref A_a0_sightLand, .ref A_a0_sightYear, .ref A_a0_sightCovered, .int v_a0_sights, .ref A_a0_pad, .int v_a0_padMany, .ref A_a0_act, .ref A_a0_from, .ref A_a0_to, .ref A_a0_much, .int v_a0_acts, .int v_a0_hungers, .ref A_a0_hungryIn, .ref A_a0_had, .int v_a0_hadYear, .int v_a0_badAct, .int v_a0_badWhy, .int v_a0_years, .ref A_a0_leaves, .int v_a0_yearThen, .ref A_a0_steps, .ref A_a0_nextSteps, .ref A_a0_waysTo, .ref A_a0_nextWays, .int v_a0_lawMany, .ref A_a0_covering, .ref A_a0_kept, .ref A_a0_isKept, .int v_a0_keptAt, .int v_a0_isWriting])), (A_a0_is, .inl (G.2.1, 36, .inl v_a0_is))] H → va_D A [(A_a0, .inr (11, [.int v_a0_lands, .int v_a0_wide, .int v_a0_pace, .int v_a0_age, .int v_a0_slitM, .int v_a0_slitA, .int v_a0_slitB, .int v_a0_year, .ref A_a0_is, .ref A_a0_sightLand, .ref A_a0_sightYear, .ref A_a0_sightCovered, .int v_a0_sights, .ref A_a0_pad, .int v_a0_padMany, .ref A_a0_act, .ref A_a0_from, .ref A_a0_to, .ref A_a0_much, .int v_a0_acts, .int v_a0_hungers, .ref A_a0_hungryIn, .ref A_a0_had, .int v_a0_hadYear, .int v_a0_badAct, .int v_a0_badWhy, .int v_a0_years, .ref A_a0_leaves, .int v_a0_yearThen, .ref A_a0_steps, .ref A_a0_nextSteps, .ref A_a0_waysTo, .ref A_a0_nextWays, .int v_a0_lawMany, .ref A_a0_covering, .ref A_a0_kept, .ref A_a0_isKept, .int v_a0_keptAt, .int v_a0_isWriting])), (A_a0_is, .inl (G.2.1, 36, .inl v_a0_is))] → va_S A s.heap H locs → lv_has ls 7 [(0, .ref A_a0), (1, .int p1), (3, .int x7), (4, .int x10)] → W p l e rmX11_eats s m args below meth c H locs 0 0 Q (F0 m 53 ls [.int x11]) := by
      intro x11 hz H locs ls hP hD hS hl
      have h := h _ hz
      refine lv_istore (lv' := [(5, .int x11), (0, .ref A_a0), (1, .int p1), (3, .int x7), (4, .int x10)]) hx hb dX11_eats_53 hl (by decide) rfl (fun ls hl => ?_)
      refine lv_iload hx hb dX11_eats_55 (lv_at hl 0 rfl) ?_
      obtain ⟨X14, hX14, h⟩ := rs_b1s h
      have J14 : ∀ (x13 : Int32), X14 = x13 → ∀ (H : Heap) (locs : List Loc) (ls : Array Slot), va_P G.1 vwCl [(A_a0, .inr (11, [.int v_a0_lands, .int v_a0_wide, .int v_a0_pace, .int v_a0_age, .int v_a0_slitM, .int v_a0_slitA, .int v_a0_slitB, .int v_a0_year, .ref A_a0_is, .ref A_a0_sightLand, .ref A_a0_sightYear, .ref A_a0_sightCovered, .int v_a0_sights, .ref A_a0_pad, .int v_a0_padMany, .ref A_a0_act, .ref A_a0_from, .ref A_a0_to, .ref A_a0_much, .int v_a0_acts, .int v_a0_hungers, .ref A_a0_hungryIn, .ref A_a0_had, .int v_a0_hadYear, .int v_a0_badAct, .int v_a0_badWhy, .int v_a0_years, .ref A_a0_leaves, .int v_a0_yearThen, .ref A_a0_steps, .ref A_a0_nextSteps, .ref A_a0_waysTo, .ref A_a0_nextWays, .int v_a0_lawMany, .ref A_a0_covering, .ref A_a0_kept, .ref A_a0_isKept, .int v_a0_keptAt, .int v_a0_isWriting])), (A_a0_is, .inl (G.2.1, 36, .inl v_a0_is))] H → va_D A [(A_a0, .inr (11, [.int v_a0_lands, .int v_a0_wide, .int v_a0_pace, .int v_a0_age, .int v_a0_slitM, .int v_a0_slitA, .int v_a0_slitB, .int v_a0_year, .ref A_a0_is, .ref A_a0_sightLand, .ref A_a0_sightYear, .ref A_a0_sightCovered, .int v_a0_sights, .ref A_a0_pad, .int v_a0_padMany, .ref A_a0_act, .ref A_a0_from, .ref A_a0_to, .ref A_a0_much, .int v_a0_acts, .int v_a0_hungers, .ref A_a0_hungryIn, .ref A_a0_had, .int v_a0_hadYear, .int v_a0_badAct, .int v_a0_badWhy, .int v_a0_years, .ref A_a0_leaves, .int v_a0_yearThen, .ref A_a0_steps, .ref A_a0_nextSteps, .ref A_a0_waysTo, .ref A_a0_nextWays, .int v_a0_lawMany, .ref A_a0_covering, .ref A_a0_kept, .ref A_a0_isKept, .int v_a0_keptAt, .int v_a0_isWriting])), (A_a0_is, .inl (G.2.1, 36, .inl v_a0_is))] → va_S A s.heap H locs → lv_has ls 7 [(0, .ref A_a0), (1, .int p1), (5, .int x11)] → W p l e rmX11_eats s m args below meth c H locs 0 0 Q (F0 m 68 ls [.int x13]) := by
        intro x13 hz H locs ls hP hD hS hl
        have h := h _ hz
        refine lv_istore (lv' := [(6, .int x13), (0, .ref A_a0), (1, .int p1), (5, .int x11)]) hx hb dX11_eats_68 hl (by decide) rfl (fun ls hl => ?_)
        refine lv_aload_n hx hb dX11_eats_70 rfl (lv_at hl 1 rfl) ?_
        refine va_get (D := G.1) (ci := 11) (v := .ref A_a0_is) (C := RX11) (T := TX11) (N := 39) hx hb hts uX11_eats_11 hown hK.1 hP 0 rfl rfl 8 (by decide) (hts (.fieldLink RX11 7 "RingShadowModel" "is" "[I") (List.mem_of_getElem? (i := 1) rfl)) (fun _ h9 => h9) rfl dX11_eats_71 ?_
        refine lv_iconst (v := 2) hx hb dX11_eats_74 (by decide) ?_
        refine lv_iload_n hx hb dX11_eats_75 rfl (lv_at hl 2 rfl) ?_
        obtain ⟨x15, h16, h⟩ := rs_b1s h
        have h := h _ rfl
        refine rs_callSi (As := [.int 2, .int p1]) (rest := [.ref A_a0_is]) ⟨hx, hb, hml, hown, hts⟩ (c_X11_at l G 2 p1 x15 h16) (va_cwS 2 hts gX11_eats_X11_at rfl rfl rfl (by decide +kernel) ⟨Nat.le_of_ble_eq_true rfl, Nat.le_of_ble_eq_true rfl⟩) dX11_eats_76 hK hP hD hS hA [] rfl (by decide) rfl rfl hl.1 (lv_room (Nat.le_of_ble_eq_true rfl)) ⟨Nat.zero_le _, Nat.zero_le _⟩ (fun (_ : Unit) => [(A_a0, .inr (11, [.int v_a0_lands, .int v_a0_wide, .int v_a0_pace, .int v_a0_age, .int v_a0_slitM, .int v_a0_slitA, .int v_a0_slitB, .int v_a0_year, .ref A_a0_is, .ref A_a0_sightLand, .ref A_a0_sightYear, .ref A_a0_sightCovered, .int v_a0_sights, .ref A_a0_pad, .int v_a0_padMany, .ref A_a0_act, .ref A_a0_from, .ref A_a0_to, .ref A_a0_much, .int v_a0_acts, .int v_a0_hungers, .ref A_a0_hungryIn, .ref A_a0_had, .int v_a0_hadYear, .int v_a0_badAct, .int v_a0_badWhy, .int v_a0_years, .ref A_a0_leaves, .int v_a0_yearThen, .ref A_a0_steps, .ref A_a0_nextSteps, .ref A_a0_waysTo, .ref A_a0_nextWays, .int v_a0_lawMany, .ref A_a0_covering, .ref A_a0_kept, .ref A_a0_isKept, .int v_a0_keptAt, .int v_a0_isWriting])), (A_a0_is, .inl (G.2.1, 36, .inl v_a0_is))]) (fun _ => rfl) (fun _ => rfl) (fun u16 H locs hP hD hS => ?_)
        refine lv_iload hx hb dX11_eats_79 (lv_at hl 0 rfl) ?_
        refine lv_aload_n hx hb dX11_eats_81 rfl (lv_at hl 1 rfl) ?_
        refine va_get (D := G.1) (ci := 11) (v := .ref A_a0_is) (C := RX11) (T := TX11) (N := 39) hx hb hts uX11_eats_11 hown hK.1 hP 0 rfl rfl 8 (by decide) (hts (.fieldLink RX11 7 "RingShadowModel" "is" "[I") (List.mem_of_getElem? (i := 1) rfl)) (fun _ h9 => h9) rfl dX11_eats_82 ?_
        refine lv_iconst (v := 3) hx hb dX11_eats_85 (by decide) ?_
        refine lv_iload_n hx hb dX11_eats_86 rfl (lv_at hl 2 rfl) ?_
        obtain ⟨x17, h18, h⟩ := rs_b1s h
        have h := h _ rfl
        refine rs_callSi (As := [.int 3, .int p1]) (rest := [.ref A_a0_is, .int x13, .int x15, .ref A_a0_is]) ⟨hx, hb, hml, hown, hts⟩ (c_X11_at l G 3 p1 x17 h18) (va_cwS 2 hts gX11_eats_X11_at rfl rfl rfl (by decide +kernel) ⟨Nat.le_of_ble_eq_true rfl, Nat.le_of_ble_eq_true rfl⟩) dX11_eats_87 hK hP hD hS hA [] rfl (by decide) rfl rfl hl.1 (lv_room (Nat.le_of_ble_eq_true rfl)) ⟨Nat.zero_le _, Nat.zero_le _⟩ (fun (_ : Unit) => [(A_a0, .inr (11, [.int v_a0_lands, .int v_a0_wide, .int v_a0_pace, .int v_a0_age, .int v_a0_slitM, .int v_a0_slitA, .int v_a0_slitB, .int v_a0_year, .ref A_a0_is, .ref A_a0_sightLand, .ref A_a0_sightYear, .ref A_a0_sightCovered, .int v_a0_sights, .ref A_a0_pad, .int v_a0_padMany, .ref A_a0_act, .ref A_a0_from, .ref A_a0_to, .ref A_a0_much, .int v_a0_acts, .int v_a0_hungers, .ref A_a0_hungryIn, .ref A_a0_had, .int v_a0_hadYear, .int v_a0_badAct, .int v_a0_badWhy, .int v_a0_years, .ref A_a0_leaves, .int v_a0_yearThen, .ref A_a0_steps, .ref A_a0_nextSteps, .ref A_a0_waysTo, .ref A_a0_nextWays, .int v_a0_lawMany, .ref A_a0_covering, .ref A_a0_kept, .ref A_a0_isKept, .int v_a0_keptAt, .int v_a0_isWriting])), (A_a0_is, .inl (G.2.1, 36, .inl v_a0_is))]) (fun _ => rfl) (fun _ => rfl) (fun u18 H locs hP hD hS => ?_)
        obtain ⟨hg, h⟩ := rs_gd h
        refine va_iald hx hb hK.1 hP 1 0 rfl rfl hg dX11_eats_90 ?_
        obtain ⟨X22, hX22, h⟩ := rs_b1s h
        have J22 : ∀ (x21 : Int32), X22 = x21 → ∀ (H : Heap) (locs : List Loc) (ls : Array Slot), va_P G.1 vwCl [(A_a0, .inr (11, [.int v_a0_lands, .int v_a0_wide, .int v_a0_pace, .int v_a0_age, .int v_a0_slitM, .int v_a0_slitA, .int v_a0_slitB, .int v_a0_year, .ref A_a0_is, .ref A_a0_sightLand, .ref A_a0_sightYear, .ref A_a0_sightCovered, .int v_a0_sights, .ref A_a0_pad, .int v_a0_padMany, .ref A_a0_act, .ref A_a0_from, .ref A_a0_to, .ref A_a0_much, .int v_a0_acts, .int v_a0_hungers, .ref A_a0_hungryIn, .ref A_a0_had, .int v_a0_hadYear, .int v_a0_badAct, .int v_a0_badWhy, .int v_a0_years, .ref A_a0_leaves, .int v_a0_yearThen, .ref A_a0_steps, .ref A_a0_nextSteps, .ref A_a0_waysTo, .ref A_a0_nextWays, .int v_a0_lawMany, .ref A_a0_covering, .ref A_a0_kept, .ref A_a0_isKept, .int v_a0_keptAt, .int v_a0_isWriting])), (A_a0_is, .inl (G.2.1, 36, .inl v_a0_is))] H → va_D A [(A_a0, .inr (11, [.int v_a0_lands, .int v_a0_wide, .int v_a0_pace, .int v_a0_age, .int v_a0_slitM, .int v_a0_slitA, .int v_a0_slitB, .int v_a0_year, .ref A_a0_is, .ref A_a0_sightLand, .ref A_a0_sightYear, .ref A_a0_sightCovered, .int v_a0_sights, .ref A_a0_pad, .int v_a0_padMany, .ref A_a0_act, .ref A_a0_from, .ref A_a0_to, .ref A_a0_much, .int v_a0_acts, .int v_a0_hungers, .ref A_a0_hungryIn, .ref A_a0_had, .int v_a0_hadYear, .int v_a0_badAct, .int v_a0_badWhy, .int v_a0_years, .ref A_a0_leaves, .int v_a0_yearThen, .ref A_a0_steps, .ref A_a0_nextSteps, .ref A_a0_waysTo, .ref A_a0_nextWays, .int v_a0_lawMany, .ref A_a0_covering, .ref A_a0_kept, .ref A_a0_isKept, .int v_a0_keptAt, .int v_a0_isWriting])), (A_a0_is, .inl (G.2.1, 36, .inl v_a0_is))] → va_S A s.heap H locs → lv_has ls 7 [(5, .int x11)] → W p l e rmX11_eats s m args below meth c H locs 0 0 Q (F0 m 109 ls [.int x21, .int x15, .ref A_a0_is]) := by
          intro x21 hz H locs ls hP hD hS hl
          have h := h _ hz
          obtain ⟨hg, h⟩ := rs_gd h
          refine va_iast hx hb hK.1 hP hD hS 1 0 rfl rfl hg dX11_eats_109 (fun H locs hP hD hS => ?_)
          have hP : va_P G.1 vwCl [(A_a0, .inr (11, [.int v_a0_lands, .int v_a0_wide, .int v_a0_pace, .int v_a0_age, .int v_a0_slitM, .int v_a0_slitA, .int v_a0_slitB, .int v_a0_year, .ref A_a0_is, .ref A_a0_sightLand, .ref A_a0_sightYear, .ref A_a0_sightCovered, .int v_a0_sights, .ref A_a0_pad, .int v_a0_padMany, .ref A_a0_act, .ref A_a0_from, .ref A_a0_to, .ref A_a0_much, .int v_a0_acts, .int v_a0_hungers, .ref A_a0_hungryIn, .ref A_a0_had, .int v_a0_hadYear, .int v_a0_badAct, .int v_a0_badWhy, .int v_a0_years, .ref A_a0_leaves, .int v_a0_yearThen, .ref A_a0_steps, .ref A_a0_nextSteps, .ref A_a0_waysTo, .ref A_a0_nextWays, .int v_a0_lawMany, .ref A_a0_covering, .ref A_a0_kept, .ref A_a0_isKept, .int v_a0_keptAt, .int v_a0_isWriting])), (A_a0_is, .inl (G.2.1, 36, .inl (upd v_a0_is x15.toNatClampNeg x21)))] H := hP
          have hD : va_D A [(A_a0, .inr (11, [.int v_a0_lands, .int v_a0_wide, .int v_a0_pace, .int v_a0_age, .int v_a0_slitM, .int v_a0_slitA, .int v_a0_slitB, .int v_a0_year, .ref A_a0_is, .ref A_a0_sightLand, .ref A_a0_sightYear, .ref A_a0_sightCovered, .int v_a0_sights, .ref A_a0_pad, .int v_a0_padMany, .ref A_a0_act, .ref A_a0_from, .ref A_a0_to, .ref A_a0_much, .int v_a0_acts, .int v_a0_hungers, .ref A_a0_hungryIn, .ref A_a0_had, .int v_a0_hadYear, .int v_a0_badAct, .int v_a0_badWhy, .int v_a0_years, .ref A_a0_leaves, .int v_a0_yearThen, .ref A_a0_steps, .ref A_a0_nextSteps, .ref A_a0_waysTo, .ref A_a0_nextWays, .int v_a0_lawMany, .ref A_a0_covering, .ref A_a0_kept, .ref A_a0_isKept, .int v_a0_keptAt, .int v_a0_isWriting])), (A_a0_is, .inl (G.2.1, 36, .inl (upd v_a0_is x15.toNatClampNeg x21)))] := hD
          refine lv_iload hx hb dX11_eats_110 (lv_at hl 0 rfl) ?_
          obtain ⟨hg, h⟩ := rs_ga h
          exact ret _ _ () _ _ _ _ h hP hS dX11_eats_112 (rs_narz hg)
        have h := hX22
        refine lv_icmp_le (tgt := 107) hx hb dX11_eats_91 (by decide) (fun hc => ?_) (fun hc => ?_)
        · have h := rs_pos hc h
          refine lv_iload hx hb dX11_eats_107 (lv_at hl 0 rfl) ?_
          exact J22 _ (Option.some.inj h).symm _ _ _ hP hD hS (lv_sub hl [3] rfl)
        have h := rs_neg hc h
        refine lv_aload_n hx hb dX11_eats_94 rfl (lv_at hl 1 rfl) ?_
        refine va_get (D := G.1) (ci := 11) (v := .ref A_a0_is) (C := RX11) (T := TX11) (N := 39) hx hb hts uX11_eats_11 hown hK.1 hP 0 rfl rfl 8 (by decide) (hts (.fieldLink RX11 7 "RingShadowModel" "is" "[I") (List.mem_of_getElem? (i := 1) rfl)) (fun _ h9 => h9) rfl dX11_eats_95 ?_
        refine lv_iconst (v := 3) hx hb dX11_eats_98 (by decide) ?_
        refine lv_iload_n hx hb dX11_eats_99 rfl (lv_at hl 2 rfl) ?_
        obtain ⟨x23, h24, h⟩ := rs_b1s h
        have h := h _ rfl
        refine rs_callSi (As := [.int 3, .int p1]) (rest := [.ref A_a0_is, .int x15, .ref A_a0_is]) ⟨hx, hb, hml, hown, hts⟩ (c_X11_at l G 3 p1 x23 h24) (va_cwS 2 hts gX11_eats_X11_at rfl rfl rfl (by decide +kernel) ⟨Nat.le_of_ble_eq_true rfl, Nat.le_of_ble_eq_true rfl⟩) dX11_eats_100 hK hP hD hS hA [] rfl (by decide) rfl rfl hl.1 (lv_room (Nat.le_of_ble_eq_true rfl)) ⟨Nat.zero_le _, Nat.zero_le _⟩ (fun (_ : Unit) => [(A_a0, .inr (11, [.int v_a0_lands, .int v_a0_wide, .int v_a0_pace, .int v_a0_age, .int v_a0_slitM, .int v_a0_slitA, .int v_a0_slitB, .int v_a0_year, .ref A_a0_is, .ref A_a0_sightLand, .ref A_a0_sightYear, .ref A_a0_sightCovered, .int v_a0_sights, .ref A_a0_pad, .int v_a0_padMany, .ref A_a0_act, .ref A_a0_from, .ref A_a0_to, .ref A_a0_much, .int v_a0_acts, .int v_a0_hungers, .ref A_a0_hungryIn, .ref A_a0_had, .int v_a0_hadYear, .int v_a0_badAct, .int v_a0_badWhy, .int v_a0_years, .ref A_a0_leaves, .int v_a0_yearThen, .ref A_a0_steps, .ref A_a0_nextSteps, .ref A_a0_waysTo, .ref A_a0_nextWays, .int v_a0_lawMany, .ref A_a0_covering, .ref A_a0_kept, .ref A_a0_isKept, .int v_a0_keptAt, .int v_a0_isWriting])), (A_a0_is, .inl (G.2.1, 36, .inl v_a0_is))]) (fun _ => rfl) (fun _ => rfl) (fun u24 H locs hP hD hS => ?_)
        obtain ⟨hg, h⟩ := rs_gd h
        refine va_iald hx hb hK.1 hP 1 0 rfl rfl hg dX11_eats_103 ?_
        refine lv_goto (tgt := 109) hx hb dX11_eats_104 (by decide) ?_
        exact J22 _ (Option.some.inj h).symm _ _ _ hP hD hS (lv_sub hl [3] rfl)
      have h := hX14
      refine lv_if_eq (tgt := 64) hx hb dX11_eats_57 (by decide) (fun hc => ?_) (fun hc => ?_)
      · have h := rs_pos hc h
        refine lv_iload_n hx hb dX11_eats_64 rfl (lv_at hl 3 rfl) ?_
        refine lv_iload hx hb dX11_eats_65 (lv_at hl 4 rfl) ?_
        refine lv_isub hx hb dX11_eats_67 ?_
        exact J14 _ (Option.some.inj h).symm _ _ _ hP hD hS (lv_sub hl [1, 2, 0] rfl)
      have h := rs_neg hc h
      refine lv_iconst (v := 0) hx hb dX11_eats_60 (by decide) ?_
      refine lv_goto (tgt := 68) hx hb dX11_eats_61 (by decide) ?_
      exact J14 _ (Option.some.inj h).symm _ _ _ hP hD hS (lv_sub hl [1, 2, 0] rfl)
    have h := hX12
    refine lv_icmp_ge (tgt := 52) hx hb dX11_eats_45 (by decide) (fun hc => ?_) (fun hc => ?_)
    · have h := rs_pos hc h
      refine lv_iconst (v := 0) hx hb dX11_eats_52 (by decide) ?_
      exact J12 _ (Option.some.inj h).symm _ _ _ hP hD hS (lv_sub hl [2, 3, 1, 0] rfl)
    have h := rs_neg hc h
    refine lv_iconst (v := 1) hx hb dX11_eats_48 (by decide) ?_
    refine lv_goto (tgt := 53) hx hb dX11_eats_49 (by decide) ?_
    exact J12 _ (Option.some.inj h).symm _ _ _ hP hD hS (lv_sub hl [2, 3, 1, 0] rfl)
  have h := hX6
  refine lv_if_eq (tgt := 27) hx hb dX11_eats_11 (by decide) (fun hc => ?_) (fun hc => ?_)
  · have h := rs_pos hc h
    refine lv_iconst (v := 0) hx hb dX11_eats_27 (by decide) ?_
    exact J6 _ (Option.some.inj h).symm _ _ _ hP hD hS (lv_sub hl [0, 1] rfl)
  have h := rs_neg hc h
  refine lv_aload_n hx hb dX11_eats_14 rfl (lv_at hl 0 rfl) ?_
  refine va_get (D := G.1) (ci := 11) (v := .ref A_a0_is) (C := RX11) (T := TX11) (N := 39) hx hb hts uX11_eats_11 hown hK.1 hP 0 rfl rfl 8 (by decide) (hts (.fieldLink RX11 7 "RingShadowModel" "is" "[I") (List.mem_of_getElem? (i := 1) rfl)) (fun _ h9 => h9) rfl dX11_eats_15 ?_
  refine lv_iconst (v := 0) hx hb dX11_eats_18 (by decide) ?_
  refine lv_iload_n hx hb dX11_eats_19 rfl (lv_at hl 1 rfl) ?_
  obtain ⟨x25, h26, h⟩ := rs_b1s h
  have h := h _ rfl
  refine rs_callSi (As := [.int 0, .int p1]) (rest := [.ref A_a0_is, .int (v_a0_is x1.toNatClampNeg)]) ⟨hx, hb, hml, hown, hts⟩ (c_X11_at l G 0 p1 x25 h26) (va_cwS 2 hts gX11_eats_X11_at rfl rfl rfl (by decide +kernel) ⟨Nat.le_of_ble_eq_true rfl, Nat.le_of_ble_eq_true rfl⟩) dX11_eats_20 hK hP hD hS hA [] rfl (by decide) rfl rfl hl.1 (lv_room (Nat.le_of_ble_eq_true rfl)) ⟨Nat.zero_le _, Nat.zero_le _⟩ (fun (_ : Unit) => [(A_a0, .inr (11, [.int v_a0_lands, .int v_a0_wide, .int v_a0_pace, .int v_a0_age, .int v_a0_slitM, .int v_a0_slitA, .int v_a0_slitB, .int v_a0_year, .ref A_a0_is, .ref A_a0_sightLand, .ref A_a0_sightYear, .ref A_a0_sightCovered, .int v_a0_sights, .ref A_a0_pad, .int v_a0_padMany, .ref A_a0_act, .ref A_a0_from, .ref A_a0_to, .ref A_a0_much, .int v_a0_acts, .int v_a0_hungers, .ref A_a0_hungryIn, .ref A_a0_had, .int v_a0_hadYear, .int v_a0_badAct, .int v_a0_badWhy, .int v_a0_years, .ref A_a0_leaves, .int v_a0_yearThen, .ref A_a0_steps, .ref A_a0_nextSteps, .ref A_a0_waysTo, .ref A_a0_nextWays, .int v_a0_lawMany, .ref A_a0_covering, .ref A_a0_kept, .ref A_a0_isKept, .int v_a0_keptAt, .int v_a0_isWriting])), (A_a0_is, .inl (G.2.1, 36, .inl v_a0_is))]) (fun _ => rfl) (fun _ => rfl) (fun u26 H locs hP hD hS => ?_)
  obtain ⟨hg, h⟩ := rs_gd h
  refine va_iald hx hb hK.1 hP 1 0 rfl rfl hg dX11_eats_23 ?_
  refine lv_goto (tgt := 28) hx hb dX11_eats_24 (by decide) ?_
  exact J6 _ (Option.some.inj h).symm _ _ _ hP hD hS (lv_sub hl [0, 1] rfl)
