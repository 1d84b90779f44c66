theorem uX11_told_11 : ∀ w ∈ wsX110, w ∈ wsX11_told := fun _ h => List.mem_cons_of_mem _ (List.mem_append_right _ h)
abbrev rmX11_told : Room := { frames := 2, cells := 0, slots := 0, locals := 46 }
set_option maxRecDepth 100000 in
set_option maxHeartbeats 4000000 in
theorem c_X11_told (l : Launch) (G : rs_G) (A_a0 : Nat) (A_a0_is : Nat) (A_a0_sightLand : Nat) (A_a0_sightYear : Nat) (A_a0_sightCovered : Nat) (A_a0_pad : Nat) (A_a0_act : Nat) (A_a0_from : Nat) (A_a0_to : Nat) (A_a0_much : Nat) (A_a0_hungryIn : Nat) (A_a0_had : Nat) (A_a0_leaves : Nat) (A_a0_steps : Nat) (A_a0_nextSteps : Nat) (A_a0_waysTo : Nat) (A_a0_nextWays : Nat) (A_a0_covering : Nat) (A_a0_kept : Nat) (A_a0_isKept : Nat) (v_a0_lands : Int32) (v_a0_wide : Int32) (v_a0_pace : Int32) (v_a0_age : Int32) (v_a0_slitM : Int32) (v_a0_slitA : Int32) (v_a0_slitB : Int32) (v_a0_year : Int32) (v_a0_sights : Int32) (v_a0_padMany : Int32) (v_a0_acts : Int32) (v_a0_hungers : Int32) (v_a0_hadYear : Int32) (v_a0_badAct : Int32) (v_a0_badWhy : Int32) (v_a0_years : Int32) (v_a0_yearThen : Int32) (v_a0_lawMany : Int32) (v_a0_keptAt : Int32) (v_a0_isWriting : Int32) (v_a0_is : (Nat → Int32)) (p1 : Int32) (r0 : Int32) (h : f_X11_told p1 v_a0_lands v_a0_wide v_a0_pace v_a0_age v_a0_slitM v_a0_slitA v_a0_slitB v_a0_year v_a0_sights v_a0_padMany v_a0_is = some r0) : rs_Ci l yX11_told wsX11_told rmX11_told G [.ref A_a0, .int p1] [(A_a0, .inr (11, [.int v_a0_lands, .int v_a0_wide, .int v_a0_pace, .int v_a0_age, .int v_a0_slitM, .int v_a0_slitA, .int v_a0_slitB, .int v_a0_year, .ref A_a0_is, .ref A_a0_sightLand, .ref A_a0_sightYear, .ref A_a0_sightCovered, .int v_a0_sights, .ref A_a0_pad, .int v_a0_padMany, .ref A_a0_act, .ref A_a0_from, .ref A_a0_to, .ref A_a0_much, .int v_a0_acts, .int v_a0_hungers, .ref A_a0_hungryIn, .ref A_a0_had, .int v_a0_hadYear, .int v_a0_badAct, .int v_a0_badWhy, .int v_a0_years, .ref A_a0_leaves, .int v_a0_yearThen, .ref A_a0_steps, .ref A_a0_nextSteps, .ref A_a0_waysTo, .ref A_a0_nextWays, .int v_a0_lawMany, .ref A_a0_covering, .ref A_a0_kept, .ref A_a0_isKept, .int v_a0_keptAt, .int v_a0_isWriting])), (A_a0_is, .inl (G.2.1, 36, .inl v_a0_is))] (fun (_ : Unit) => [(A_a0, .inr (11, [.int v_a0_lands, .int v_a0_wide, .int v_a0_pace, .int v_a0_age, .int v_a0_slitM, .int v_a0_slitA, .int v_a0_slitB, .int v_a0_year, .ref A_a0_is, .ref A_a0_sightLand, .ref A_a0_sightYear, .ref A_a0_sightCovered, .int v_a0_sights, .ref A_a0_pad, .int v_a0_padMany, .ref A_a0_act, .ref A_a0_from, .ref A_a0_to, .ref A_a0_much, .int v_a0_acts, .int v_a0_hungers, .ref A_a0_hungryIn, .ref A_a0_had, .int v_a0_hadYear, .int v_a0_badAct, .int v_a0_badWhy, .int v_a0_years, .ref A_a0_leaves, .int v_a0_yearThen, .ref A_a0_steps, .ref A_a0_nextSteps, .ref A_a0_waysTo, .ref A_a0_nextWays, .int v_a0_lawMany, .ref A_a0_covering, .ref A_a0_kept, .ref A_a0_isKept, .int v_a0_keptAt, .int v_a0_isWriting])), (A_a0_is, .inl (G.2.1, 36, .inl v_a0_is))]) r0 := by
  refine rs_enter_i (cc := cX11_told) (maxL := 3) (ty := .int) (by decide) rfl (Nat.le_of_ble_eq_true rfl) (fun p e s m args below meth c A Q ls E ret hP hD hS hA hl => ?_)
  obtain ⟨hx, hb, hml, hown, hts, hK⟩ := E
  have hown : s.vm.findClass RX11 = some m.cls := hown
  have hl : lv_has ls 3 [(0, .ref A_a0), (1, .int p1)] := hl
  have ret : ∀ (v0 : Int32) (u : Unit) (H : Heap) (locs : List Loc) (pc : Nat) (ls : Array Slot), some v0 = some r0 → va_P G.1 vwCl [(A_a0, .inr (11, [.int v_a0_lands, .int v_a0_wide, .int v_a0_pace, .int v_a0_age, .int v_a0_slitM, .int v_a0_slitA, .int v_a0_slitB, .int v_a0_year, .ref A_a0_is, .ref A_a0_sightLand, .ref A_a0_sightYear, .ref A_a0_sightCovered, .int v_a0_sights, .ref A_a0_pad, .int v_a0_padMany, .ref A_a0_act, .ref A_a0_from, .ref A_a0_to, .ref A_a0_much, .int v_a0_acts, .int v_a0_hungers, .ref A_a0_hungryIn, .ref A_a0_had, .int v_a0_hadYear, .int v_a0_badAct, .int v_a0_badWhy, .int v_a0_years, .ref A_a0_leaves, .int v_a0_yearThen, .ref A_a0_steps, .ref A_a0_nextSteps, .ref A_a0_waysTo, .ref A_a0_nextWays, .int v_a0_lawMany, .ref A_a0_covering, .ref A_a0_kept, .ref A_a0_isKept, .int v_a0_keptAt, .int v_a0_isWriting])), (A_a0_is, .inl (G.2.1, 36, .inl v_a0_is))] H → va_S A s.heap H locs → decode cX11_told pc = .ok (.ireturn, 1) → narrow .int (.int v0) = .int v0 → W p l e rmX11_told s m args below meth c H locs 0 0 Q (F0 m pc ls [.int v0]) := by
    intro v0 u H locs pc ls hz
    cases hz
    exact ret u H locs pc ls
  unfold f_X11_told at h
  refine lv_iload_n hx hb dX11_told_0 rfl (lv_at hl 1 rfl) ?_
  refine lv_i2l (v := (p1.toInt64)) hx hb dX11_told_1 rfl ?_
  refine lv_ldc2 hx hb hown (hts (.constantLong RX11 273 (10)) (List.mem_of_getElem? (i := 1) rfl)) dX11_told_2 ?_
  refine lv_ldc2 hx hb hown (hts (.constantLong RX11 109 (99)) (List.mem_of_getElem? (i := 2) rfl)) dX11_told_5 ?_
  obtain ⟨x1, h2, h⟩ := rs_b1s h
  have h := h _ rfl
  refine rs_callSi (As := [.long (p1.toInt64), .long 10, .long 99]) (rest := []) ⟨hx, hb, hml, hown, hts⟩ (c_X11_in l G (p1.toInt64) 10 99 x1 h2) (va_cwS 3 hts gX11_told_X11_in rfl rfl rfl (by decide +kernel) ⟨Nat.le_of_ble_eq_true rfl, Nat.le_of_ble_eq_true rfl⟩) dX11_told_8 hK hP hD hS hA [] rfl (by decide) rfl rfl hl.1 (lv_room (Nat.le_of_ble_eq_true rfl)) ⟨Nat.zero_le _, Nat.zero_le _⟩ (fun (_ : Unit) => [(A_a0, .inr (11, [.int v_a0_lands, .int v_a0_wide, .int v_a0_pace, .int v_a0_age, .int v_a0_slitM, .int v_a0_slitA, .int v_a0_slitB, .int v_a0_year, .ref A_a0_is, .ref A_a0_sightLand, .ref A_a0_sightYear, .ref A_a0_sightCovered, .int v_a0_sights, .ref A_a0_pad, .int v_a0_padMany, .ref A_a0_act, .ref A_a0_from, .ref A_a0_to, .ref A_a0_much, .int v_a0_acts, .int v_a0_hungers, .ref A_a0_hungryIn, .ref A_a0_had, .int v_a0_hadYear, .int v_a0_badAct, .int v_a0_badWhy, .int v_a0_years, .ref A_a0_leaves, .int v_a0_yearThen, .ref A_a0_steps, .ref A_a0_nextSteps, .ref A_a0_waysTo, .ref A_a0_nextWays, .int v_a0_lawMany, .ref A_a0_covering, .ref A_a0_kept, .ref A_a0_isKept, .int v_a0_keptAt, .int v_a0_isWriting])), (A_a0_is, .inl (G.2.1, 36, .inl v_a0_is))]) (fun _ => rfl) (fun _ => rfl) (fun u2 H locs hP hD hS => ?_)
  refine lv_if_eq (tgt := 56) hx hb dX11_told_11 (by decide) (fun hc => ?_) (fun hc => ?_)
  · have h := rs_pos hc h
    refine lv_iload_n hx hb dX11_told_56 rfl (lv_at hl 1 rfl) ?_
    by_cases c0 : p1 = 0
    · have h := rs_pos c0 h
      refine lv_tableIn (off := 55) (tgt := 112) hx hb dX11_told_57 (by rw [c0]; decide) (by rw [c0]; decide) (by rw [c0]; rfl) (by decide) ?_
      refine lv_aload_n hx hb dX11_told_112 rfl (lv_at hl 0 rfl) ?_
      refine va_get (D := G.1) (ci := 11) (v := .int v_a0_padMany) (C := RX11) (T := TX11) (N := 39) hx hb hts uX11_told_11 hown hK.1 hP 0 rfl rfl 14 (by decide) (hts (.fieldLink RX11 139 "RingShadowModel" "padMany" "I") (List.mem_of_getElem? (i := 4) rfl)) (fun _ h9 => h9) rfl dX11_told_113 ?_
      exact ret _ () _ _ _ _ h hP hS dX11_told_116 rfl
    have h := rs_neg c0 h
    by_cases c1 : p1 = 1
    · have h := rs_pos c1 h
      refine lv_tableIn (off := 60) (tgt := 117) hx hb dX11_told_57 (by rw [c1]; decide) (by rw [c1]; decide) (by rw [c1]; rfl) (by decide) ?_
      refine lv_aload_n hx hb dX11_told_117 rfl (lv_at hl 0 rfl) ?_
      refine va_get (D := G.1) (ci := 11) (v := .int v_a0_lands) (C := RX11) (T := TX11) (N := 39) hx hb hts uX11_told_11 hown hK.1 hP 0 rfl rfl 0 (by decide) (hts (.fieldLink RX11 83 "RingShadowModel" "lands" "I") (List.mem_of_getElem? (i := 5) rfl)) (fun _ h9 => h9) rfl dX11_told_118 ?_
      exact ret _ () _ _ _ _ h hP hS dX11_told_121 rfl
    have h := rs_neg c1 h
    by_cases c2 : p1 = 2
    · have h := rs_pos c2 h
      refine lv_tableIn (off := 65) (tgt := 122) hx hb dX11_told_57 (by rw [c2]; decide) (by rw [c2]; decide) (by rw [c2]; rfl) (by decide) ?_
      refine lv_aload_n hx hb dX11_told_122 rfl (lv_at hl 0 rfl) ?_
      refine va_get (D := G.1) (ci := 11) (v := .int v_a0_wide) (C := RX11) (T := TX11) (N := 39) hx hb hts uX11_told_11 hown hK.1 hP 0 rfl rfl 1 (by decide) (hts (.fieldLink RX11 86 "RingShadowModel" "wide" "I") (List.mem_of_getElem? (i := 6) rfl)) (fun _ h9 => h9) rfl dX11_told_123 ?_
      exact ret _ () _ _ _ _ h hP hS dX11_told_126 rfl
    have h := rs_neg c2 h
    by_cases c3 : p1 = 3
    · have h := rs_pos c3 h
      refine lv_tableIn (off := 80) (tgt := 137) hx hb dX11_told_57 (by rw [c3]; decide) (by rw [c3]; decide) (by rw [c3]; rfl) (by decide) ?_
      refine lv_iload_n hx hb dX11_told_137 rfl (lv_at hl 1 rfl) ?_
      refine lv_i2l (v := (p1.toInt64)) hx hb dX11_told_138 rfl ?_
      refine lv_ldc2 hx hb hown (hts (.constantLong RX11 133 (3)) (List.mem_of_getElem? (i := 9) rfl)) dX11_told_139 ?_
      refine lv_ldc2 hx hb hown (hts (.constantLong RX11 303 (7)) (List.mem_of_getElem? (i := 10) rfl)) dX11_told_142 ?_
      obtain ⟨x3, h4, h⟩ := rs_b1s h
      have h := h _ rfl
      refine rs_callSi (As := [.long (p1.toInt64), .long 3, .long 7]) (rest := []) ⟨hx, hb, hml, hown, hts⟩ (c_X11_in l G (p1.toInt64) 3 7 x3 h4) (va_cwS 3 hts gX11_told_X11_in rfl rfl rfl (by decide +kernel) ⟨Nat.le_of_ble_eq_true rfl, Nat.le_of_ble_eq_true rfl⟩) dX11_told_145 hK hP hD hS hA [] rfl (by decide) rfl rfl hl.1 (lv_room (Nat.le_of_ble_eq_true rfl)) ⟨Nat.zero_le _, Nat.zero_le _⟩ (fun (_ : Unit) => [(A_a0, .inr (11, [.int v_a0_lands, .int v_a0_wide, .int v_a0_pace, .int v_a0_age, .int v_a0_slitM, .int v_a0_slitA, .int v_a0_slitB, .int v_a0_year, .ref A_a0_is, .ref A_a0_sightLand, .ref A_a0_sightYear, .ref A_a0_sightCovered, .int v_a0_sights, .ref A_a0_pad, .int v_a0_padMany, .ref A_a0_act, .ref A_a0_from, .ref A_a0_to, .ref A_a0_much, .int v_a0_acts, .int v_a0_hungers, .ref A_a0_hungryIn, .ref A_a0_had, .int v_a0_hadYear, .int v_a0_badAct, .int v_a0_badWhy, .int v_a0_years, .ref A_a0_leaves, .int v_a0_yearThen, .ref A_a0_steps, .ref A_a0_nextSteps, .ref A_a0_waysTo, .ref A_a0_nextWays, .int v_a0_lawMany, .ref A_a0_covering, .ref A_a0_kept, .ref A_a0_isKept, .int v_a0_keptAt, .int v_a0_isWriting])), (A_a0_is, .inl (G.2.1, 36, .inl v_a0_is))]) (fun _ => rfl) (fun _ => rfl) (fun u4 H locs hP hD hS => ?_)
      refine lv_if_eq (tgt := 161) hx hb dX11_told_148 (by decide) (fun hc => ?_) (fun hc => ?_)
      · have h := rs_pos hc h
        refine lv_bipush (v := (-2)) hx hb dX11_told_161 (by decide) ?_
        exact ret _ () _ _ _ _ h hP hS dX11_told_163 rfl
      have h := rs_neg hc h
      refine lv_aload_n hx hb dX11_told_151 rfl (lv_at hl 0 rfl) ?_
      refine lv_iload_n hx hb dX11_told_152 rfl (lv_at hl 1 rfl) ?_
      refine lv_iconst (v := 3) hx hb dX11_told_153 (by decide) ?_
      refine lv_isub hx hb dX11_told_154 ?_
      obtain ⟨x5, h6, h⟩ := rs_b1s h
      have h := h _ rfl
      refine rs_callVi (As := [.int (p1 - 3)]) (rest := []) ⟨hx, hb, hml, hown, hts⟩ (c_X11_setting l G A_a0 A_a0_is A_a0_sightLand A_a0_sightYear A_a0_sightCovered A_a0_pad A_a0_act A_a0_from A_a0_to A_a0_much A_a0_hungryIn A_a0_had A_a0_leaves A_a0_steps A_a0_nextSteps A_a0_waysTo A_a0_nextWays A_a0_covering A_a0_kept A_a0_isKept v_a0_lands v_a0_wide v_a0_pace v_a0_age v_a0_slitM v_a0_slitA v_a0_slitB v_a0_year v_a0_sights v_a0_padMany v_a0_acts v_a0_hungers v_a0_hadYear v_a0_badAct v_a0_badWhy v_a0_years v_a0_yearThen v_a0_lawMany v_a0_keptAt v_a0_isWriting (p1 - 3) x5 h6) (cwV 1 hts gX11_told_X11_setting rfl rfl rfl (by decide +kernel) ⟨Nat.le_of_ble_eq_true rfl, Nat.le_of_ble_eq_true rfl⟩) dX11_told_155 hK hP hD hS hA [0] rfl (by decide) rfl rfl (q0 := 0) (ci := 11) rfl rfl rfl hl.1 (lv_room (Nat.le_of_ble_eq_true rfl)) ⟨Nat.zero_le _, Nat.zero_le _⟩ (fun (_ : Unit) => [(A_a0, .inr (11, [.int v_a0_lands, .int v_a0_wide, .int v_a0_pace, .int v_a0_age, .int v_a0_slitM, .int v_a0_slitA, .int v_a0_slitB, .int v_a0_year, .ref A_a0_is, .ref A_a0_sightLand, .ref A_a0_sightYear, .ref A_a0_sightCovered, .int v_a0_sights, .ref A_a0_pad, .int v_a0_padMany, .ref A_a0_act, .ref A_a0_from, .ref A_a0_to, .ref A_a0_much, .int v_a0_acts, .int v_a0_hungers, .ref A_a0_hungryIn, .ref A_a0_had, .int v_a0_hadYear, .int v_a0_badAct, .int v_a0_badWhy, .int v_a0_years, .ref A_a0_leaves, .int v_a0_yearThen, .ref A_a0_steps, .ref A_a0_nextSteps, .ref A_a0_waysTo, .ref A_a0_nextWays, .int v_a0_lawMany, .ref A_a0_covering, .ref A_a0_kept, .ref A_a0_isKept, .int v_a0_keptAt, .int v_a0_isWriting])), (A_a0_is, .inl (G.2.1, 36, .inl v_a0_is))]) (fun _ => rfl) (fun _ => rfl) (fun u6 H locs hP hD hS => ?_)
      refine lv_goto (tgt := 163) hx hb dX11_told_158 (by decide) ?_
      exact ret _ () _ _ _ _ h hP hS dX11_told_163 rfl
    have h := rs_neg c3 h
    by_cases c4 : p1 = 4
    · have h := rs_pos c4 h
      refine lv_tableIn (off := 80) (tgt := 137) hx hb dX11_told_57 (by rw [c4]; decide) (by rw [c4]; decide) (by rw [c4]; rfl) (by decide) ?_
      refine lv_iload_n hx hb dX11_told_137 rfl (lv_at hl 1 rfl) ?_
      refine lv_i2l (v := (p1.toInt64)) hx hb dX11_told_138 rfl ?_
      refine lv_ldc2 hx hb hown (hts (.constantLong RX11 133 (3)) (List.mem_of_getElem? (i := 9) rfl)) dX11_told_139 ?_
      refine lv_ldc2 hx hb hown (hts (.constantLong RX11 303 (7)) (List.mem_of_getElem? (i := 10) rfl)) dX11_told_142 ?_
      obtain ⟨x7, h8, h⟩ := rs_b1s h
      have h := h _ rfl
      refine rs_callSi (As := [.long (p1.toInt64), .long 3, .long 7]) (rest := []) ⟨hx, hb, hml, hown, hts⟩ (c_X11_in l G (p1.toInt64) 3 7 x7 h8) (va_cwS 3 hts gX11_told_X11_in rfl rfl rfl (by decide +kernel) ⟨Nat.le_of_ble_eq_true rfl, Nat.le_of_ble_eq_true rfl⟩) dX11_told_145 hK hP hD hS hA [] rfl (by decide) rfl rfl hl.1 (lv_room (Nat.le_of_ble_eq_true rfl)) ⟨Nat.zero_le _, Nat.zero_le _⟩ (fun (_ : Unit) => [(A_a0, .inr (11, [.int v_a0_lands, .int v_a0_wide, .int v_a0_pace, .int v_a0_age, .int v_a0_slitM, .int v_a0_slitA, .int v_a0_slitB, .int v_a0_year, .ref A_a0_is, .ref A_a0_sightLand, .ref A_a0_sightYear, .ref A_a0_sightCovered, .int v_a0_sights, .ref A_a0_pad, .int v_a0_padMany, .ref A_a0_act, .ref A_a0_from, .ref A_a0_to, .ref A_a0_much, .int v_a0_acts, .int v_a0_hungers, .ref A_a0_hungryIn, .ref A_a0_had, .int v_a0_hadYear, .int v_a0_badAct, .int v_a0_badWhy, .int v_a0_years, .ref A_a0_leaves, .int v_a0_yearThen, .ref A_a0_steps, .ref A_a0_nextSteps, .ref A_a0_waysTo, .ref A_a0_nextWays, .int v_a0_lawMany, .ref A_a0_covering, .ref A_a0_kept, .ref A_a0_isKept, .int v_a0_keptAt, .int v_a0_isWriting])), (A_a0_is, .inl (G.2.1, 36, .inl v_a0_is))]) (fun _ => rfl) (fun _ => rfl) (fun u8 H locs hP hD hS => ?_)
      refine lv_if_eq (tgt := 161) hx hb dX11_told_148 (by decide) (fun hc => ?_) (fun hc => ?_)
      · have h := rs_pos hc h
        refine lv_bipush (v := (-2)) hx hb dX11_told_161 (by decide) ?_
        exact ret _ () _ _ _ _ h hP hS dX11_told_163 rfl
      have h := rs_neg hc h
      refine lv_aload_n hx hb dX11_told_151 rfl (lv_at hl 0 rfl) ?_
      refine lv_iload_n hx hb dX11_told_152 rfl (lv_at hl 1 rfl) ?_
      refine lv_iconst (v := 3) hx hb dX11_told_153 (by decide) ?_
      refine lv_isub hx hb dX11_told_154 ?_
      obtain ⟨x9, h10, h⟩ := rs_b1s h
      have h := h _ rfl
      refine rs_callVi (As := [.int (p1 - 3)]) (rest := []) ⟨hx, hb, hml, hown, hts⟩ (c_X11_setting l G A_a0 A_a0_is A_a0_sightLand A_a0_sightYear A_a0_sightCovered A_a0_pad A_a0_act A_a0_from A_a0_to A_a0_much A_a0_hungryIn A_a0_had A_a0_leaves A_a0_steps A_a0_nextSteps A_a0_waysTo A_a0_nextWays A_a0_covering A_a0_kept A_a0_isKept v_a0_lands v_a0_wide v_a0_pace v_a0_age v_a0_slitM v_a0_slitA v_a0_slitB v_a0_year v_a0_sights v_a0_padMany v_a0_acts v_a0_hungers v_a0_hadYear v_a0_badAct v_a0_badWhy v_a0_years v_a0_yearThen v_a0_lawMany v_a0_keptAt v_a0_isWriting (p1 - 3) x9 h10) (cwV 1 hts gX11_told_X11_setting rfl rfl rfl (by decide +kernel) ⟨Nat.le_of_ble_eq_true rfl, Nat.le_of_ble_eq_true rfl⟩) dX11_told_155 hK hP hD hS hA [0] rfl (by decide) rfl rfl (q0 := 0) (ci := 11) rfl rfl rfl hl.1 (lv_room (Nat.le_of_ble_eq_true rfl)) ⟨Nat.zero_le _, Nat.zero_le _⟩ (fun (_ : Unit) => [(A_a0, .inr (11, [.int v_a0_lands, .int v_a0_wide, .int v_a0_pace, .int v_a0_age, .int v_a0_slitM, .int v_a0_slitA, .int v_a0_slitB, .int v_a0_year, .ref A_a0_is, .ref A_a0_sightLand, .ref A_a0_sightYear, .ref A_a0_sightCovered, .int v_a0_sights, .ref A_a0_pad, .int v_a0_padMany, .ref A_a0_act, .ref A_a0_from, .ref A_a0_to, .ref A_a0_much, .int v_a0_acts, .int v_a0_hungers, .ref A_a0_hungryIn, .ref A_a0_had, .int v_a0_hadYear, .int v_a0_badAct, .int v_a0_badWhy, .int v_a0_years, .ref A_a0_leaves, .int v_a0_yearThen, .ref A_a0_steps, .ref A_a0_nextSteps, .ref A_a0_waysTo, .ref A_a0_nextWays, .int v_a0_lawMany, .ref A_a0_covering, .ref A_a0_kept, .ref A_a0_isKept, .int v_a0_keptAt, .int v_a0_isWriting])), (A_a0_is, .inl (G.2.1, 36, .inl v_a0_is))]) (fun _ => rfl) (fun _ => rfl) (fun u10 H locs hP hD hS => ?_)
      refine lv_goto (tgt := 163) hx hb dX11_told_158 (by decide) ?_
      exact ret _ () _ _ _ _ h hP hS dX11_told_163 rfl
    have h := rs_neg c4 h
    by_cases c5 : p1 = 5
    · have h := rs_pos c5 h
      refine lv_tableIn (off := 80) (tgt := 137) hx hb dX11_told_57 (by rw [c5]; decide) (by rw [c5]; decide) (by rw [c5]; rfl) (by decide) ?_
      refine lv_iload_n hx hb dX11_told_137 rfl (lv_at hl 1 rfl) ?_
      refine lv_i2l (v := (p1.toInt64)) hx hb dX11_told_138 rfl ?_
      refine lv_ldc2 hx hb hown (hts (.constantLong RX11 133 (3)) (List.mem_of_getElem? (i := 9) rfl)) dX11_told_139 ?_
      refine lv_ldc2 hx hb hown (hts (.constantLong RX11 303 (7)) (List.mem_of_getElem? (i := 10) rfl)) dX11_told_142 ?_
      obtain ⟨x11, h12, h⟩ := rs_b1s h
      have h := h _ rfl
      refine rs_callSi (As := [.long (p1.toInt64), .long 3, .long 7]) (rest := []) ⟨hx, hb, hml, hown, hts⟩ (c_X11_in l G (p1.toInt64) 3 7 x11 h12) (va_cwS 3 hts gX11_told_X11_in rfl rfl rfl (by decide +kernel) ⟨Nat.le_of_ble_eq_true rfl, Nat.le_of_ble_eq_true rfl⟩) dX11_told_145 hK hP hD hS hA [] rfl (by decide) rfl rfl hl.1 (lv_room (Nat.le_of_ble_eq_true rfl)) ⟨Nat.zero_le _, Nat.zero_le _⟩ (fun (_ : Unit) => [(A_a0, .inr (11, [.int v_a0_lands, .int v_a0_wide, .int v_a0_pace, .int v_a0_age, .int v_a0_slitM, .int v_a0_slitA, .int v_a0_slitB, .int v_a0_year, .ref A_a0_is, .ref A_a0_sightLand, .ref A_a0_sightYear, .ref A_a0_sightCovered, .int v_a0_sights, .ref A_a0_pad, .int v_a0_padMany, .ref A_a0_act, .ref A_a0_from, .ref A_a0_to, .ref A_a0_much, .int v_a0_acts, .int v_a0_hungers, .ref A_a0_hungryIn, .ref A_a0_had, .int v_a0_hadYear, .int v_a0_badAct, .int v_a0_badWhy, .int v_a0_years, .ref A_a0_leaves, .int v_a0_yearThen, .ref A_a0_steps, .ref A_a0_nextSteps, .ref A_a0_waysTo, .ref A_a0_nextWays, .int v_a0_lawMany, .ref A_a0_covering, .ref A_a0_kept, .ref A_a0_isKept, .int v_a0_keptAt, .int v_a0_isWriting])), (A_a0_is, .inl (G.2.1, 36, .inl v_a0_is))]) (fun _ => rfl) (fun _ => rfl) (fun u12 H locs hP hD hS => ?_)
      refine lv_if_eq (tgt := 161) hx hb dX11_told_148 (by decide) (fun hc => ?_) (fun hc => ?_)
      · have h := rs_pos hc h
        refine lv_bipush (v := (-2)) hx hb dX11_told_161 (by decide) ?_
        exact ret _ () _ _ _ _ h hP hS dX11_told_163 rfl
      have h := rs_neg hc h
      refine lv_aload_n hx hb dX11_told_151 rfl (lv_at hl 0 rfl) ?_
      refine lv_iload_n hx hb dX11_told_152 rfl (lv_at hl 1 rfl) ?_
      refine lv_iconst (v := 3) hx hb dX11_told_153 (by decide) ?_
      refine lv_isub hx hb dX11_told_154 ?_
      obtain ⟨x13, h14, h⟩ := rs_b1s h
      have h := h _ rfl
      refine rs_callVi (As := [.int (p1 - 3)]) (rest := []) ⟨hx, hb, hml, hown, hts⟩ (c_X11_setting l G A_a0 A_a0_is A_a0_sightLand A_a0_sightYear A_a0_sightCovered A_a0_pad A_a0_act A_a0_from A_a0_to A_a0_much A_a0_hungryIn A_a0_had A_a0_leaves A_a0_steps A_a0_nextSteps A_a0_waysTo A_a0_nextWays A_a0_covering A_a0_kept A_a0_isKept v_a0_lands v_a0_wide v_a0_pace v_a0_age v_a0_slitM v_a0_slitA v_a0_slitB v_a0_year v_a0_sights v_a0_padMany v_a0_acts v_a0_hungers v_a0_hadYear v_a0_badAct v_a0_badWhy v_a0_years v_a0_yearThen v_a0_lawMany v_a0_keptAt v_a0_isWriting (p1 - 3) x13 h14) (cwV 1 hts gX11_told_X11_setting rfl rfl rfl (by decide +kernel) ⟨Nat.le_of_ble_eq_true rfl, Nat.le_of_ble_eq_true rfl⟩) dX11_told_155 hK hP hD hS hA [0] rfl (by decide) rfl rfl (q0 := 0) (ci := 11) rfl rfl rfl hl.1 (lv_room (Nat.le_of_ble_eq_true rfl)) ⟨Nat.zero_le _, Nat.zero_le _⟩ (fun (_ : Unit) => [(A_a0, .inr (11, [.int v_a0_lands, .int v_a0_wide, .int v_a0_pace, .int v_a0_age, .int v_a0_slitM, .int v_a0_slitA, .int v_a0_slitB, .int v_a0_year, .ref A_a0_is, .ref A_a0_sightLand, .ref A_a0_sightYear, .ref A_a0_sightCovered, .int v_a0_sights, .ref A_a0_pad, .int v_a0_padMany, .ref A_a0_act, .ref A_a0_from, .ref A_a0_to, .ref A_a0_much, .int v_a0_acts, .int v_a0_hungers, .ref A_a0_hungryIn, .ref A_a0_had, .int v_a0_hadYear, .int v_a0_badAct, .int v_a0_badWhy, .int v_a0_years, .ref A_a0_leaves, .int v_a0_yearThen, .ref A_a0_steps, .ref A_a0_nextSteps, .ref A_a0_waysTo, .ref A_a0_nextWays, .int v_a0_lawMany, .ref A_a0_covering, .ref A_a0_kept, .ref A_a0_isKept, .int v_a0_keptAt, .int v_a0_isWriting])), (A_a0_is, .inl (G.2.1, 36, .inl v_a0_is))]) (fun _ => rfl) (fun _ => rfl) (fun u14 H locs hP hD hS => ?_)
      refine lv_goto (tgt := 163) hx hb dX11_told_158 (by decide) ?_
      exact ret _ () _ _ _ _ h hP hS dX11_told_163 rfl
    have h := rs_neg c5 h
    by_cases c6 : p1 = 6
    · have h := rs_pos c6 h
      refine lv_tableIn (off := 80) (tgt := 137) hx hb dX11_told_57 (by rw [c6]; decide) (by rw [c6]; decide) (by rw [c6]; rfl) (by decide) ?_
      refine lv_iload_n hx hb dX11_told_137 rfl (lv_at hl 1 rfl) ?_
      refine lv_i2l (v := (p1.toInt64)) hx hb dX11_told_138 rfl ?_
      refine lv_ldc2 hx hb hown (hts (.constantLong RX11 133 (3)) (List.mem_of_getElem? (i := 9) rfl)) dX11_told_139 ?_
      refine lv_ldc2 hx hb hown (hts (.constantLong RX11 303 (7)) (List.mem_of_getElem? (i := 10) rfl)) dX11_told_142 ?_
      obtain ⟨x15, h16, h⟩ := rs_b1s h
      have h := h _ rfl
      refine rs_callSi (As := [.long (p1.toInt64), .long 3, .long 7]) (rest := []) ⟨hx, hb, hml, hown, hts⟩ (c_X11_in l G (p1.toInt64) 3 7 x15 h16) (va_cwS 3 hts gX11_told_X11_in rfl rfl rfl (by decide +kernel) ⟨Nat.le_of_ble_eq_true rfl, Nat.le_of_ble_eq_true rfl⟩) dX11_told_145 hK hP hD hS hA [] rfl (by decide) rfl rfl hl.1 (lv_room (Nat.le_of_ble_eq_true rfl)) ⟨Nat.zero_le _, Nat.zero_le _⟩ (fun (_ : Unit) => [(A_a0, .inr (11, [.int v_a0_lands, .int v_a0_wide, .int v_a0_pace, .int v_a0_age, .int v_a0_slitM, .int v_a0_slitA, .int v_a0_slitB, .int v_a0_year, .ref A_a0_is, .ref A_a0_sightLand, .ref A_a0_sightYear, .ref A_a0_sightCovered, .int v_a0_sights, .ref A_a0_pad, .int v_a0_padMany, .ref A_a0_act, .ref A_a0_from, .ref A_a0_to, .ref A_a0_much, .int v_a0_acts, .int v_a0_hungers, .ref A_a0_hungryIn, .ref A_a0_had, .int v_a0_hadYear, .int v_a0_badAct, .int v_a0_badWhy, .int v_a0_years, .ref A_a0_leaves, .int v_a0_yearThen, .ref A_a0_steps, .ref A_a0_nextSteps, .ref A_a0_waysTo, .ref A_a0_nextWays, .int v_a0_lawMany, .ref A_a0_covering, .ref A_a0_kept, .ref A_a0_isKept, .int v_a0_keptAt, .int v_a0_isWriting])), (A_a0_is, .inl (G.2.1, 36, .inl v_a0_is))]) (fun _ => rfl) (fun _ => rfl) (fun u16 H locs hP hD hS => ?_)
      refine lv_if_eq (tgt := 161) hx hb dX11_told_148 (by decide) (fun hc => ?_) (fun hc => ?_)
      · have h := rs_pos hc h
        refine lv_bipush (v := (-2)) hx hb dX11_told_161 (by decide) ?_
        exact ret _ () _ _ _ _ h hP hS dX11_told_163 rfl
      have h := rs_neg hc h
      refine lv_aload_n hx hb dX11_told_151 rfl (lv_at hl 0 rfl) ?_
      refine lv_iload_n hx hb dX11_told_152 rfl (lv_at hl 1 rfl) ?_
      refine lv_iconst (v := 3) hx hb dX11_told_153 (by decide) ?_
      refine lv_isub hx hb dX11_told_154 ?_
      obtain ⟨x17, h18, h⟩ := rs_b1s h
      have h := h _ rfl
      refine rs_callVi (As := [.int (p1 - 3)]) (rest := []) ⟨hx, hb, hml, hown, hts⟩ (c_X11_setting l G A_a0 A_a0_is A_a0_sightLand A_a0_sightYear A_a0_sightCovered A_a0_pad A_a0_act A_a0_from A_a0_to A_a0_much A_a0_hungryIn A_a0_had A_a0_leaves A_a0_steps A_a0_nextSteps A_a0_waysTo A_a0_nextWays A_a0_covering A_a0_kept A_a0_isKept v_a0_lands v_a0_wide v_a0_pace v_a0_age v_a0_slitM v_a0_slitA v_a0_slitB v_a0_year v_a0_sights v_a0_padMany v_a0_acts v_a0_hungers v_a0_hadYear v_a0_badAct v_a0_badWhy v_a0_years v_a0_yearThen v_a0_lawMany v_a0_keptAt v_a0_isWriting (p1 - 3) x17 h18) (cwV 1 hts gX11_told_X11_setting rfl rfl rfl (by decide +kernel) ⟨Nat.le_of_ble_eq_true rfl, Nat.le_of_ble_eq_true rfl⟩) dX11_told_155 hK hP hD hS hA [0] rfl (by decide) rfl rfl (q0 := 0) (ci := 11) rfl rfl rfl hl.1 (lv_room (Nat.le_of_ble_eq_true rfl)) ⟨Nat.zero_le _, Nat.zero_le _⟩ (fun (_ : Unit) => [(A_a0, .inr (11, [.int v_a0_lands, .int v_a0_wide, .int v_a0_pace, .int v_a0_age, .int v_a0_slitM, .int v_a0_slitA, .int v_a0_slitB, .int v_a0_year, .ref A_a0_is, .ref A_a0_sightLand, .ref A_a0_sightYear, .ref A_a0_sightCovered, .int v_a0_sights, .ref A_a0_pad, .int v_a0_padMany, .ref A_a0_act, .ref A_a0_from, .ref A_a0_to, .ref A_a0_much, .int v_a0_acts, .int v_a0_hungers, .ref A_a0_hungryIn, .ref A_a0_had, .int v_a0_hadYear, .int v_a0_badAct, .int v_a0_badWhy, .int v_a0_years, .ref A_a0_leaves, .int v_a0_yearThen, .ref A_a0_steps, .ref A_a0_nextSteps, .ref A_a0_waysTo, .ref A_a0_nextWays, .int v_a0_lawMany, .ref A_a0_covering, .ref A_a0_kept, .ref A_a0_isKept, .int v_a0_keptAt, .int v_a0_isWriting])), (A_a0_is, .inl (G.2.1, 36, .inl v_a0_is))]) (fun _ => rfl) (fun _ => rfl) (fun u18 H locs hP hD hS => ?_)
      refine lv_goto (tgt := 163) hx hb dX11_told_158 (by decide) ?_
      exact ret _ () _ _ _ _ h hP hS dX11_told_163 rfl
    have h := rs_neg c6 h
    by_cases c7 : p1 = 7
    · have h := rs_pos c7 h
      refine lv_tableIn (off := 80) (tgt := 137) hx hb dX11_told_57 (by rw [c7]; decide) (by rw [c7]; decide) (by rw [c7]; rfl) (by decide) ?_
      refine lv_iload_n hx hb dX11_told_137 rfl (lv_at hl 1 rfl) ?_
      refine lv_i2l (v := (p1.toInt64)) hx hb dX11_told_138 rfl ?_
      refine lv_ldc2 hx hb hown (hts (.constantLong RX11 133 (3)) (List.mem_of_getElem? (i := 9) rfl)) dX11_told_139 ?_
      refine lv_ldc2 hx hb hown (hts (.constantLong RX11 303 (7)) (List.mem_of_getElem? (i := 10) rfl)) dX11_told_142 ?_
      obtain ⟨x19, h20, h⟩ := rs_b1s h
      have h := h _ rfl
      refine rs_callSi (As := [.long (p1.toInt64), .long 3, .long 7]) (rest := []) ⟨hx, hb, hml, hown, hts⟩ (c_X11_in l G (p1.toInt64) 3 7 x19 h20) (va_cwS 3 hts gX11_told_X11_in rfl rfl rfl (by decide +kernel) ⟨Nat.le_of_ble_eq_true rfl, Nat.le_of_ble_eq_true rfl⟩) dX11_told_145 hK hP hD hS hA [] rfl (by decide) rfl rfl hl.1 (lv_room (Nat.le_of_ble_eq_true rfl)) ⟨Nat.zero_le _, Nat.zero_le _⟩ (fun (_ : Unit) => [(A_a0, .inr (11, [.int v_a0_lands, .int v_a0_wide, .int v_a0_pace, .int v_a0_age, .int v_a0_slitM, .int v_a0_slitA, .int v_a0_slitB, .int v_a0_year, .ref A_a0_is, .ref A_a0_sightLand, .ref A_a0_sightYear, .ref A_a0_sightCovered, .int v_a0_sights, .ref A_a0_pad, .int v_a0_padMany, .ref A_a0_act, .ref A_a0_from, .ref A_a0_to, .ref A_a0_much, .int v_a0_acts, .int v_a0_hungers, .ref A_a0_hungryIn, .ref A_a0_had, .int v_a0_hadYear, .int v_a0_badAct, .int v_a0_badWhy, .int v_a0_years, .ref A_a0_leaves, .int v_a0_yearThen, .ref A_a0_steps, .ref A_a0_nextSteps, .ref A_a0_waysTo, .ref A_a0_nextWays, .int v_a0_lawMany, .ref A_a0_covering, .ref A_a0_kept, .ref A_a0_isKept, .int v_a0_keptAt, .int v_a0_isWriting])), (A_a0_is, .inl (G.2.1, 36, .inl v_a0_is))]) (fun _ => rfl) (fun _ => rfl) (fun u20 H locs hP hD hS => ?_)
      refine lv_if_eq (tgt := 161) hx hb dX11_told_148 (by decide) (fun hc => ?_) (fun hc => ?_)
      · have h := rs_pos hc h
        refine lv_bipush (v := (-2)) hx hb dX11_told_161 (by decide) ?_
        exact ret _ () _ _ _ _ h hP hS dX11_told_163 rfl
      have h := rs_neg hc h
      refine lv_aload_n hx hb dX11_told_151 rfl (lv_at hl 0 rfl) ?_
      refine lv_iload_n hx hb dX11_told_152 rfl (lv_at hl 1 rfl) ?_
      refine lv_iconst (v := 3) hx hb dX11_told_153 (by decide) ?_
      refine lv_isub hx hb dX11_told_154 ?_
      obtain ⟨x21, h22, h⟩ := rs_b1s h
      have h := h _ rfl
      refine rs_callVi (As := [.int (p1 - 3)]) (rest := []) ⟨hx, hb, hml, hown, hts⟩ (c_X11_setting l G A_a0 A_a0_is A_a0_sightLand A_a0_sightYear A_a0_sightCovered A_a0_pad A_a0_act A_a0_from A_a0_to A_a0_much A_a0_hungryIn A_a0_had A_a0_leaves A_a0_steps A_a0_nextSteps A_a0_waysTo A_a0_nextWays A_a0_covering A_a0_kept A_a0_isKept v_a0_lands v_a0_wide v_a0_pace v_a0_age v_a0_slitM v_a0_slitA v_a0_slitB v_a0_year v_a0_sights v_a0_padMany v_a0_acts v_a0_hungers v_a0_hadYear v_a0_badAct v_a0_badWhy v_a0_years v_a0_yearThen v_a0_lawMany v_a0_keptAt v_a0_isWriting (p1 - 3) x21 h22) (cwV 1 hts gX11_told_X11_setting rfl rfl rfl (by decide +kernel) ⟨Nat.le_of_ble_eq_true rfl, Nat.le_of_ble_eq_true rfl⟩) dX11_told_155 hK hP hD hS hA [0] rfl (by decide) rfl rfl (q0 := 0) (ci := 11) rfl rfl rfl hl.1 (lv_room (Nat.le_of_ble_eq_true rfl)) ⟨Nat.zero_le _, Nat.zero_le _⟩ (fun (_ : Unit) => [(A_a0, .inr (11, [.int v_a0_lands, .int v_a0_wide, .int v_a0_pace, .int v_a0_age, .int v_a0_slitM, .int v_a0_slitA, .int v_a0_slitB, .int v_a0_year, .ref A_a0_is, .ref A_a0_sightLand, .ref A_a0_sightYear, .ref A_a0_sightCovered, .int v_a0_sights, .ref A_a0_pad, .int v_a0_padMany, .ref A_a0_act, .ref A_a0_from, .ref A_a0_to, .ref A_a0_much, .int v_a0_acts, .int v_a0_hungers, .ref A_a0_hungryIn, .ref A_a0_had, .int v_a0_hadYear, .int v_a0_badAct, .int v_a0_badWhy, .int v_a0_years, .ref A_a0_leaves, .int v_a0_yearThen, .ref A_a0_steps, .ref A_a0_nextSteps, .ref A_a0_waysTo, .ref A_a0_nextWays, .int v_a0_lawMany, .ref A_a0_covering, .ref A_a0_kept, .ref A_a0_isKept, .int v_a0_keptAt, .int v_a0_isWriting])), (A_a0_is, .inl (G.2.1, 36, .inl v_a0_is))]) (fun _ => rfl) (fun _ => rfl) (fun u22 H locs hP hD hS => ?_)
      refine lv_goto (tgt := 163) hx hb dX11_told_158 (by decide) ?_
      exact ret _ () _ _ _ _ h hP hS dX11_told_163 rfl
    have h := rs_neg c7 h
    by_cases c8 : p1 = 8
    · have h := rs_pos c8 h
      refine lv_tableIn (off := 70) (tgt := 127) hx hb dX11_told_57 (by rw [c8]; decide) (by rw [c8]; decide) (by rw [c8]; rfl) (by decide) ?_
      refine lv_aload_n hx hb dX11_told_127 rfl (lv_at hl 0 rfl) ?_
      refine va_get (D := G.1) (ci := 11) (v := .int v_a0_year) (C := RX11) (T := TX11) (N := 39) hx hb hts uX11_told_11 hown hK.1 hP 0 rfl rfl 7 (by decide) (hts (.fieldLink RX11 89 "RingShadowModel" "year" "I") (List.mem_of_getElem? (i := 7) rfl)) (fun _ h9 => h9) rfl dX11_told_128 ?_
      exact ret _ () _ _ _ _ h hP hS dX11_told_131 rfl
    have h := rs_neg c8 h
    by_cases c9 : p1 = 9
    · have h := rs_pos c9 h
      refine lv_tableIn (off := 75) (tgt := 132) hx hb dX11_told_57 (by rw [c9]; decide) (by rw [c9]; decide) (by rw [c9]; rfl) (by decide) ?_
      refine lv_aload_n hx hb dX11_told_132 rfl (lv_at hl 0 rfl) ?_
      refine va_get (D := G.1) (ci := 11) (v := .int v_a0_sights) (C := RX11) (T := TX11) (N := 39) hx hb hts uX11_told_11 hown hK.1 hP 0 rfl rfl 12 (by decide) (hts (.fieldLink RX11 92 "RingShadowModel" "sights" "I") (List.mem_of_getElem? (i := 8) rfl)) (fun _ h9 => h9) rfl dX11_told_133 ?_
      exact ret _ () _ _ _ _ h hP hS dX11_told_136 rfl
    have h := rs_neg c9 h
    refine lv_tableOut (tgt := 137) hx hb dX11_told_57 (by have e0 := lv_neT (k := 0) (a := 0) c0 rfl; have e1 := lv_neT (k := 1) (a := 1) c1 rfl; have e2 := lv_neT (k := 2) (a := 2) c2 rfl; have e3 := lv_neT (k := 3) (a := 3) c3 rfl; have e4 := lv_neT (k := 4) (a := 4) c4 rfl; have e5 := lv_neT (k := 5) (a := 5) c5 rfl; have e6 := lv_neT (k := 6) (a := 6) c6 rfl; have e7 := lv_neT (k := 7) (a := 7) c7 rfl; have e8 := lv_neT (k := 8) (a := 8) c8 rfl; have e9 := lv_neT (k := 9) (a := 9) c9 rfl; omega) (by decide) ?_
    refine lv_iload_n hx hb dX11_told_137 rfl (lv_at hl 1 rfl) ?_
    refine lv_i2l (v := (p1.toInt64)) hx hb dX11_told_138 rfl ?_
    refine lv_ldc2 hx hb hown (hts (.constantLong RX11 133 (3)) (List.mem_of_getElem? (i := 9) rfl)) dX11_told_139 ?_
    refine lv_ldc2 hx hb hown (hts (.constantLong RX11 303 (7)) (List.mem_of_getElem? (i := 10) rfl)) dX11_told_142 ?_
    obtain ⟨x23, h24, h⟩ := rs_b1s h
    have h := h _ rfl
    refine rs_callSi (As := [.long (p1.toInt64), .long 3, .long 7]) (rest := []) ⟨hx, hb, hml, hown, hts⟩ (c_X11_in l G (p1.toInt64) 3 7 x23 h24) (va_cwS 3 hts gX11_told_X11_in rfl rfl rfl (by decide +kernel) ⟨Nat.le_of_ble_eq_true rfl, Nat.le_of_ble_eq_true rfl⟩) dX11_told_145 hK hP hD hS hA [] rfl (by decide) rfl rfl hl.1 (lv_room (Nat.le_of_ble_eq_true rfl)) ⟨Nat.zero_le _, Nat.zero_le _⟩ (fun (_ : Unit) => [(A_a0, .inr (11, [.int v_a0_lands, .int v_a0_wide, .int v_a0_pace, .int v_a0_age, .int v_a0_slitM, .int v_a0_slitA, .int v_a0_slitB, .int v_a0_year, .ref A_a0_is, .ref A_a0_sightLand, .ref A_a0_sightYear, .ref A_a0_sightCovered, .int v_a0_sights, .ref A_a0_pad, .int v_a0_padMany, .ref A_a0_act, .ref A_a0_from, .ref A_a0_to, .ref A_a0_much, .int v_a0_acts, .int v_a0_hungers, .ref A_a0_hungryIn, .ref A_a0_had, .int v_a0_hadYear, .int v_a0_badAct, .int v_a0_badWhy, .int v_a0_years, .ref A_a0_leaves, .int v_a0_yearThen, .ref A_a0_steps, .ref A_a0_nextSteps, .ref A_a0_waysTo, .ref A_a0_nextWays, .int v_a0_lawMany, .ref A_a0_covering, .ref A_a0_kept, .ref A_a0_isKept, .int v_a0_keptAt, .int v_a0_isWriting])), (A_a0_is, .inl (G.2.1, 36, .inl v_a0_is))]) (fun _ => rfl) (fun _ => rfl) (fun u24 H locs hP hD hS => ?_)
    refine lv_if_eq (tgt := 161) hx hb dX11_told_148 (by decide) (fun hc => ?_) (fun hc => ?_)
    · have h := rs_pos hc h
      refine lv_bipush (v := (-2)) hx hb dX11_told_161 (by decide) ?_
      exact ret _ () _ _ _ _ h hP hS dX11_told_163 rfl
    have h := rs_neg hc h
    refine lv_aload_n hx hb dX11_told_151 rfl (lv_at hl 0 rfl) ?_
    refine lv_iload_n hx hb dX11_told_152 rfl (lv_at hl 1 rfl) ?_
    refine lv_iconst (v := 3) hx hb dX11_told_153 (by decide) ?_
    refine lv_isub hx hb dX11_told_154 ?_
    obtain ⟨x25, h26, h⟩ := rs_b1s h
    have h := h _ rfl
    refine rs_callVi (As := [.int (p1 - 3)]) (rest := []) ⟨hx, hb, hml, hown, hts⟩ (c_X11_setting l G A_a0 A_a0_is A_a0_sightLand A_a0_sightYear A_a0_sightCovered A_a0_pad A_a0_act A_a0_from A_a0_to A_a0_much A_a0_hungryIn A_a0_had A_a0_leaves A_a0_steps A_a0_nextSteps A_a0_waysTo A_a0_nextWays A_a0_covering A_a0_kept A_a0_isKept v_a0_lands v_a0_wide v_a0_pace v_a0_age v_a0_slitM v_a0_slitA v_a0_slitB v_a0_year v_a0_sights v_a0_padMany v_a0_acts v_a0_hungers v_a0_hadYear v_a0_badAct v_a0_badWhy v_a0_years v_a0_yearThen v_a0_lawMany v_a0_keptAt v_a0_isWriting (p1 - 3) x25 h26) (cwV 1 hts gX11_told_X11_setting rfl rfl rfl (by decide +kernel) ⟨Nat.le_of_ble_eq_true rfl, Nat.le_of_ble_eq_true rfl⟩) dX11_told_155 hK hP hD hS hA [0] rfl (by decide) rfl rfl (q0 := 0) (ci := 11) rfl rfl rfl hl.1 (lv_room (Nat.le_of_ble_eq_true rfl)) ⟨Nat.zero_le _, Nat.zero_le _⟩ (fun (_ : Unit) => [(A_a0, .inr (11, [.int v_a0_lands, .int v_a0_wide, .int v_a0_pace, .int v_a0_age, .int v_a0_slitM, .int v_a0_slitA, .int v_a0_slitB, .int v_a0_year, .ref A_a0_is, .ref A_a0_sightLand, .ref A_a0_sightYear, .ref A_a0_sightCovered, .int v_a0_sights, .ref A_a0_pad, .int v_a0_padMany, .ref A_a0_act, .ref A_a0_from, .ref A_a0_to, .ref A_a0_much, .int v_a0_acts, .int v_a0_hungers, .ref A_a0_hungryIn, .ref A_a0_had, .int v_a0_hadYear, .int v_a0_badAct, .int v_a0_badWhy, .int v_a0_years, .ref A_a0_leaves, .int v_a0_yearThen, .ref A_a0_steps, .ref A_a0_nextSteps, .ref A_a0_waysTo, .ref A_a0_nextWays, .int v_a0_lawMany, .ref A_a0_covering, .ref A_a0_kept, .ref A_a0_isKept, .int v_a0_keptAt, .int v_a0_isWriting])), (A_a0_is, .inl (G.2.1, 36, .inl v_a0_is))]) (fun _ => rfl) (fun _ => rfl) (fun u26 H locs hP hD hS => ?_)
    refine lv_goto (tgt := 163) hx hb dX11_told_158 (by decide) ?_
    exact ret _ () _ _ _ _ h hP hS dX11_told_163 rfl
  have h := rs_neg hc h
  refine lv_iload_n hx hb dX11_told_14 rfl (lv_at hl 1 rfl) ?_
  refine lv_bipush (v := 10) hx hb dX11_told_15 (by decide) ?_
  refine lv_idiv hx hb dX11_told_17 (by decide) ?_
  refine lv_iconst (v := 1) hx hb dX11_told_18 (by decide) ?_
  refine lv_isub hx hb dX11_told_19 ?_
  refine rs_topi h (fun x27 h => ?_)
  refine lv_istore_n (lv' := [(2, .int x27), (0, .ref A_a0), (1, .int p1)]) hx hb dX11_told_20 rfl hl (by decide) rfl (fun ls hl => ?_)
  refine lv_aload_n hx hb dX11_told_21 rfl (lv_at hl 1 rfl) ?_
  refine lv_iload_n hx hb dX11_told_22 rfl (lv_at hl 0 rfl) ?_
  obtain ⟨x28, h29, h⟩ := rs_b1s h
  have h := h _ rfl
  refine rs_callVi (As := [.int x27]) (rest := []) ⟨hx, hb, hml, hown, hts⟩ (c_X11_isLand l G A_a0 A_a0_is A_a0_sightLand A_a0_sightYear A_a0_sightCovered A_a0_pad A_a0_act A_a0_from A_a0_to A_a0_much A_a0_hungryIn A_a0_had A_a0_leaves A_a0_steps A_a0_nextSteps A_a0_waysTo A_a0_nextWays A_a0_covering A_a0_kept A_a0_isKept v_a0_lands v_a0_wide v_a0_pace v_a0_age v_a0_slitM v_a0_slitA v_a0_slitB v_a0_year v_a0_sights v_a0_padMany v_a0_acts v_a0_hungers v_a0_hadYear v_a0_badAct v_a0_badWhy v_a0_years v_a0_yearThen v_a0_lawMany v_a0_keptAt v_a0_isWriting x27 x28 h29) (cwV 1 hts gX11_told_X11_isLand rfl rfl rfl (by decide +kernel) ⟨Nat.le_of_ble_eq_true rfl, Nat.le_of_ble_eq_true rfl⟩) dX11_told_23 hK hP hD hS hA [0] rfl (by decide) rfl rfl (q0 := 0) (ci := 11) rfl rfl rfl hl.1 (lv_room (Nat.le_of_ble_eq_true rfl)) ⟨Nat.zero_le _, Nat.zero_le _⟩ (fun (_ : Unit) => [(A_a0, .inr (11, [.int v_a0_lands, .int v_a0_wide, .int v_a0_pace, .int v_a0_age, .int v_a0_slitM, .int v_a0_slitA, .int v_a0_slitB, .int v_a0_year, .ref A_a0_is, .ref A_a0_sightLand, .ref A_a0_sightYear, .ref A_a0_sightCovered, .int v_a0_sights, .ref A_a0_pad, .int v_a0_padMany, .ref A_a0_act, .ref A_a0_from, .ref A_a0_to, .ref A_a0_much, .int v_a0_acts, .int v_a0_hungers, .ref A_a0_hungryIn, .ref A_a0_had, .int v_a0_hadYear, .int v_a0_badAct, .int v_a0_badWhy, .int v_a0_years, .ref A_a0_leaves, .int v_a0_yearThen, .ref A_a0_steps, .ref A_a0_nextSteps, .ref A_a0_waysTo, .ref A_a0_nextWays, .int v_a0_lawMany, .ref A_a0_covering, .ref A_a0_kept, .ref A_a0_isKept, .int v_a0_keptAt, .int v_a0_isWriting])), (A_a0_is, .inl (G.2.1, 36, .inl v_a0_is))]) (fun _ => rfl) (fun _ => rfl) (fun u29 H locs hP hD hS => ?_)
  refine lv_if_eq (tgt := 53) hx hb dX11_told_26 (by decide) (fun hc => ?_) (fun hc => ?_)
  · have h := rs_pos hc h
    refine lv_bipush (v := (-2)) hx hb dX11_told_53 (by decide) ?_
    exact ret _ () _ _ _ _ h hP hS dX11_told_55 rfl
  have h := rs_neg hc h
  refine lv_iload_n hx hb dX11_told_29 rfl (lv_at hl 2 rfl) ?_
  refine lv_bipush (v := 10) hx hb dX11_told_30 (by decide) ?_
  refine lv_irem hx hb dX11_told_32 (by decide) ?_
  refine lv_iconst (v := 4) hx hb dX11_told_33 (by decide) ?_
  refine lv_icmp_ge (tgt := 53) hx hb dX11_told_34 (by decide) (fun hc => ?_) (fun hc => ?_)
  · have h := rs_pos hc h
    refine lv_bipush (v := (-2)) hx hb dX11_told_53 (by decide) ?_
    exact ret _ () _ _ _ _ h hP hS dX11_told_55 rfl
  have h := rs_neg hc h
  refine lv_aload_n hx hb dX11_told_37 rfl (lv_at hl 1 rfl) ?_
  refine va_get (D := G.1) (ci := 11) (v := .ref A_a0_is) (C := RX11) (T := TX11) (N := 39) hx hb hts uX11_told_11 hown hK.1 hP 0 rfl rfl 8 (by decide) (hts (.fieldLink RX11 7 "RingShadowModel" "is" "[I") (List.mem_of_getElem? (i := 3) rfl)) (fun _ h9 => h9) rfl dX11_told_38 ?_
  refine lv_iload_n hx hb dX11_told_41 rfl (lv_at hl 2 rfl) ?_
  refine lv_bipush (v := 10) hx hb dX11_told_42 (by decide) ?_
  refine lv_irem hx hb dX11_told_44 (by decide) ?_
  refine lv_iload_n hx hb dX11_told_45 rfl (lv_at hl 0 rfl) ?_
  obtain ⟨x30, h31, h⟩ := rs_b1s h
  have h := h _ rfl
  refine rs_callSi (As := [.int (p1 - p1 / 10 * 10), .int x27]) (rest := [.ref A_a0_is]) ⟨hx, hb, hml, hown, hts⟩ (c_X11_at l G (p1 - p1 / 10 * 10) x27 x30 h31) (va_cwS 2 hts gX11_told_X11_at rfl rfl rfl (by decide +kernel) ⟨Nat.le_of_ble_eq_true rfl, Nat.le_of_ble_eq_true rfl⟩) dX11_told_46 hK hP hD hS hA [] rfl (by decide) rfl rfl hl.1 (lv_room (Nat.le_of_ble_eq_true rfl)) ⟨Nat.zero_le _, Nat.zero_le _⟩ (fun (_ : Unit) => [(A_a0, .inr (11, [.int v_a0_lands, .int v_a0_wide, .int v_a0_pace, .int v_a0_age, .int v_a0_slitM, .int v_a0_slitA, .int v_a0_slitB, .int v_a0_year, .ref A_a0_is, .ref A_a0_sightLand, .ref A_a0_sightYear, .ref A_a0_sightCovered, .int v_a0_sights, .ref A_a0_pad, .int v_a0_padMany, .ref A_a0_act, .ref A_a0_from, .ref A_a0_to, .ref A_a0_much, .int v_a0_acts, .int v_a0_hungers, .ref A_a0_hungryIn, .ref A_a0_had, .int v_a0_hadYear, .int v_a0_badAct, .int v_a0_badWhy, .int v_a0_years, .ref A_a0_leaves, .int v_a0_yearThen, .ref A_a0_steps, .ref A_a0_nextSteps, .ref A_a0_waysTo, .ref A_a0_nextWays, .int v_a0_lawMany, .ref A_a0_covering, .ref A_a0_kept, .ref A_a0_isKept, .int v_a0_keptAt, .int v_a0_isWriting])), (A_a0_is, .inl (G.2.1, 36, .inl v_a0_is))]) (fun _ => rfl) (fun _ => rfl) (fun u31 H locs hP hD hS => ?_)
  obtain ⟨hg, h⟩ := rs_gd h
  refine va_iald hx hb hK.1 hP 1 0 rfl rfl hg dX11_told_49 ?_
  refine lv_goto (tgt := 55) hx hb dX11_told_50 (by decide) ?_
  exact ret _ () _ _ _ _ h hP hS dX11_told_55 rfl
