abbrev rmX10_restore : Room := { frames := 3, cells := 0, slots := 0, locals := 67 }
theorem uX10_restore_10 : ∀ w ∈ wsX100, w ∈ wsX10_restore := fun _ h => List.mem_cons_of_mem _ (List.mem_append_left _ (List.mem_append_left _ (List.mem_append_left _ (List.mem_append_left _ (List.mem_append_right _ h)))))
set_option maxHeartbeats 400000 in
theorem c_X10_restore_no (l : Launch) (G : rs_G) (A_a0 A_w A_im r2 r3 r4 r5 r6 r7 : Nat) (f : Nat → Option Nat) (p1 : Int32) (r0 : Int32) (h : (p1 < 0 ∧ r0 = -2) ∨ (2 ≤ p1 ∧ r0 = -2) ∨ (¬ p1 < 0 ∧ p1 < 2 ∧ f p1.toNatClampNeg = none ∧ r0 = -3)) : rs_Ci l yX10_restore wsX10_restore rmX10_restore G [.ref A_a0, .int p1] [(A_a0, .inr (10, [.ref A_w, .ref A_im, .ref r2, .ref r3, .ref r4, .ref r5, .ref r6, .ref r7])), (A_im, .inl (G.2.2.2.2.2, 2, .inr (.inr (.inr (.inr f)))))] (fun (_ : Unit) => [(A_a0, .inr (10, [.ref A_w, .ref A_im, .ref r2, .ref r3, .ref r4, .ref r5, .ref r6, .ref r7])), (A_im, .inl (G.2.2.2.2.2, 2, .inr (.inr (.inr (.inr f)))))]) r0 := by
  refine rs_enter_i (cc := cX10_restore) (maxL := 3) (ty := .int) (by decide) rfl (Nat.le_of_ble_eq_true rfl) (fun p e s m args below meth c A Q ls E ret hP hD hS hA hl => ?_)
  obtain ⟨hx, hb, hml, hown, hts, hK⟩ := E
  have hown : s.vm.findClass RX10 = some m.cls := hown
  have hl : lv_has ls 3 [(0, .ref A_a0), (1, .int p1)] := hl
  refine lv_iload_n hx hb dX10_restore_0 rfl (lv_at hl 1 rfl) ?_
  refine lv_if_lt (tgt := 13) hx hb dX10_restore_1 (by decide) (fun hc => ?_) (fun hc => ?_)
  · have hr : r0 = -2 := by
      rcases h with h | h | h
      · exact h.2
      · exact h.2
      · exact absurd hc h.1
    subst hr
    refine lv_bipush (v := (-2)) hx hb dX10_restore_13 (by decide) ?_
    exact ret () _ _ _ _ hP hS dX10_restore_15 rfl
  refine lv_iload_n hx hb dX10_restore_4 rfl (lv_at hl 1 rfl) ?_
  refine lv_aload_n hx hb dX10_restore_5 rfl (lv_at hl 0 rfl) ?_
  refine va_get (D := G.1) (ci := 10) (v := .ref A_im) (C := RX10) (T := TX10) (N := 8) hx hb hts uX10_restore_10 hown hK.1 hP 0 rfl rfl 1 (by decide) (hts (.fieldLink RX10 16 "RingShadow" "images" "[LRingShadow$World;") (List.mem_of_getElem? (i := 1) rfl)) (fun _ h9 => h9) rfl dX10_restore_6 ?_
  refine va_alen (v := 2) hx hb hK.1 hP 1 4 rfl rfl rfl dX10_restore_9 ?_
  refine lv_icmp_lt (tgt := 16) hx hb dX10_restore_10 (by decide) (fun hc2 => ?_) (fun hc2 => ?_)
  · have hr : f p1.toNatClampNeg = none ∧ r0 = -3 := by
      rcases h with h | h | h
      · exact absurd h.1 hc
      · rw [pn_lt] at hc2
        have := (pn_le _ _).mp h.1
        omega
      · exact h.2.2
    obtain ⟨hf, rfl⟩ := hr
    have hin : vp_in p1 2 := by
      rintro (z | z)
      · exact hc z
      · have h2 : (2 : Int32).toInt = 2 := rfl
        rw [pn_lt, h2] at hc2
        obtain ⟨j, hj, rfl⟩ := nI_of hc
        rw [nI_clamp hj] at z
        rw [nI_toInt hj] at hc2
        omega
    refine lv_aload_n hx hb dX10_restore_16 rfl (lv_at hl 0 rfl) ?_
    refine va_get (D := G.1) (ci := 10) (v := .ref A_im) (C := RX10) (T := TX10) (N := 8) hx hb hts uX10_restore_10 hown hK.1 hP 0 rfl rfl 1 (by decide) (hts (.fieldLink RX10 16 "RingShadow" "images" "[LRingShadow$World;") (List.mem_of_getElem? (i := 1) rfl)) (fun _ h9 => h9) rfl dX10_restore_17 ?_
    refine lv_iload_n hx hb dX10_restore_20 rfl (lv_at hl 1 rfl) ?_
    refine va_aldq hx hb hK.1 hP 1 4 rfl rfl hin dX10_restore_21 ?_
    rw [hf]
    refine lv_astore_nN (lv' := [(2, .null), (0, .ref A_a0), (1, .int p1)]) hx hb dX10_restore_22 rfl hl (by decide) rfl (fun ls hl => ?_)
    refine lv_aload_nN hx hb dX10_restore_23 rfl (lv_at hl 0 rfl) ?_
    refine lv_ifnonnullN hx hb dX10_restore_24 ?_
    refine lv_bipush (v := (-3)) hx hb dX10_restore_27 (by decide) ?_
    exact ret () _ _ _ _ hP hS dX10_restore_29 rfl
  · have hr : r0 = -2 := by
      rcases h with h | h | h
      · exact h.2
      · exact h.2
      · exact absurd h.2.1 hc2
    subst hr
    refine lv_bipush (v := (-2)) hx hb dX10_restore_13 (by decide) ?_
    exact ret () _ _ _ _ hP hS dX10_restore_15 rfl
