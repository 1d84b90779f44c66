theorem e_lits {D : Nat → Nat} (h : sd_ok D) {N : Nat} (hN : 100001 < N) (p1 p2 p3 : Int32) : ∃ r, f_X10_lits N p1 p2 p3 (nI (D 0)) (nI (D 1)) (nI (D 2)) (nI (D 3)) (nI (D 4)) (nI (D 5)) (nI (D 6)) = some r ∧ f_X11_lits N p1 p2 p3 (nI (D 0)) (nI (D 1)) (nI (D 2)) (nI (D 3)) (nI (D 4)) (nI (D 5)) (nI (D 6)) = some r := by
  unfold f_X10_lits f_X11_lits
  have hb := h.2.1
  obtain ⟨q1, q2⟩ := sd_P_b h
  rw [s_hasLand p1 h.1 h.2.1, s_isLand p1 h.1 h.2.1, s_isYear, s_isYearM, s_within, s_in]
  simp only [rs_b1_some, b2_0]
  cases h1 : isl p1 (D 0) with
  | false => exact ⟨-1, rfl, rfl⟩
  | true =>
    cases h2 : isy p2 with
    | false => exact ⟨-2, rfl, rfl⟩
    | true =>
      cases h3 : ins p3 0 100000 with
      | false =>
        have e1 : (decide ((0 : Int32).toInt ≤ p3.toInt) && decide (p3.toInt ≤ (100000 : Int32).toInt)) = false := h3
        have e2 : (decide ((0 : Int64).toInt ≤ p3.toInt) && decide (p3.toInt ≤ (100000 : Int64).toInt)) = false := h3
        rw [e1, e2]
        exact ⟨-2, rfl, rfl⟩
      | true =>
        have e1 : (decide ((0 : Int32).toInt ≤ p3.toInt) && decide (p3.toInt ≤ (100000 : Int32).toInt)) = true := h3
        have e2 : (decide ((0 : Int64).toInt ≤ p3.toInt) && decide (p3.toInt ≤ (100000 : Int64).toInt)) = true := h3
        rw [e1, e2]
        obtain ⟨k, hk, rfl⟩ := isl_of h1
        obtain ⟨t, ht, rfl⟩ := isy_of h2
        obtain ⟨m, hm, rfl⟩ := ins_of (b := 100000) h3
        simp only [itf]
        have hlt : m % sd_P D < sd_P D := Nat.mod_lt _ (by omega)
        have hsum := sm_divmod (g := fun i => if sd_dark D k (t + i) then 0 else 1) (P := sd_P D) (fun i => by rw [← Nat.add_assoc, sd_dark_P h]) m
        rw [s_period h (by omega), rs_b1_some, s_leftOver (by omega) (by omega) (by omega), rs_b1_some, s_countLit h (by omega) (by omega) (by omega), rs_b1_some, s_litsM h (by omega) (by omega) (by omega), rs_b1_some]
        by_cases hc : sd_P D ≤ m
        · rw [if_pos (nI_le hc (by omega)), s_cut (by omega) (by omega) (by omega), rs_b1_some, s_countLit h (by omega) (by omega) (by omega), rs_b1_some, pk_mul, nI_add]
          exact ⟨_, rfl, by rw [← hsum]⟩
        · rw [if_neg (nI_ge (by omega) (by omega))]
          refine ⟨_, rfl, ?_⟩
          rw [Nat.mod_eq_of_lt (by omega)]
theorem s_firstYear {D : Nat → Nat} (h : sd_ok D) {k t N : Nat} (hk : k ≤ 9) (ht : t ≤ 99999) (hN : 3000 < N) (b : Bool) : f_X4_firstYear N (nI k) (nI t) (b2 b) (nI (D 0)) (nI (D 1)) (nI (D 2)) (nI (D 3)) (nI (D 4)) (nI (D 5)) (nI (D 6)) = some (fres t (fnd (fun i => sd_dark D k (t + i) != b) (sd_P D))) := by
  obtain ⟨q1, q2⟩ := sd_P_b h
  unfold f_X4_firstYear
  rw [s_period h (by omega), rs_b1_some]
  refine lp_find (s := 0) (t := t) (m := sd_P D) (by omega) ?_ ?_
  · intro i hi
    unfold f_X4_firstYear_L9
    rw [Nat.zero_add, if_neg (nI_ge (by omega) (by omega)), nI_add, s_isDark h hk (by omega), rs_b1_some, nI_1]
    cases sd_dark D k (t + i) <;> cases b <;> rfl
  · unfold f_X4_firstYear_L9
    rw [Nat.zero_add, if_pos (nI_le (Nat.le_refl _) (by omega))]
theorem e_next {D : Nat → Nat} (h : sd_ok D) {N : Nat} (hN : 3000 < N) (p1 p2 : Int32) (b : Bool) : ∃ r, f_X10_next N p1 p2 (b2 b) (nI (D 0)) (nI (D 1)) (nI (D 2)) (nI (D 3)) (nI (D 4)) (nI (D 5)) (nI (D 6)) = some r ∧ f_X11_next N p1 p2 (b2 b) (nI (D 0)) (nI (D 1)) (nI (D 2)) (nI (D 3)) (nI (D 4)) (nI (D 5)) (nI (D 6)) = some r := by
  unfold f_X10_next f_X11_next
  have hb := h.2.1
  obtain ⟨q1, q2⟩ := sd_P_b h
  rw [s_hasLand p1 h.1 h.2.1, s_isLand p1 h.1 h.2.1, s_isYear, s_isYearM]
  simp only [rs_b1_some, b2_0]
  cases h1 : isl p1 (D 0) with
  | false => exact ⟨-1, rfl, rfl⟩
  | true =>
    cases h2 : isy p2 with
    | false => exact ⟨-2, rfl, rfl⟩
    | true =>
      obtain ⟨k, hk, rfl⟩ := isl_of h1
      obtain ⟨t, ht, rfl⟩ := isy_of h2
      simp only [itf]
      rw [s_firstYear h (by omega) ht hN]
      refine ⟨_, rfl, ?_⟩
      rw [lp_find (f := fun i => sd_dark D k (t + i) != b) (s := t) (t := t) (m := 2880) (by omega) ?_ ?_]
      · rw [fnd_per (P := sd_P D) (fun i => by rw [← Nat.add_assoc, sd_dark_P h]) q1 q2]
      · intro i hi
        unfold f_X11_next_L23
        rw [show (2880 : Int32) = nI 2880 from rfl, nI_add, if_neg (nI_ge (by omega) (by omega)), s_isLit h (by omega) (by omega), rs_b1_some, nI_1]
        cases sd_dark D k (t + i) <;> cases b <;> rfl
      · unfold f_X11_next_L23
        rw [show (2880 : Int32) = nI 2880 from rfl, nI_add, if_pos (nI_le (Nat.le_refl _) (by omega))]
def sd_str (D : Nat → Nat) (a b t : Nat) : Bool := !sd_dark D a t && sd_dark D b t
theorem s_isStrike {D : Nat → Nat} (h : sd_ok D) {a b t : Nat} (ha : a ≤ 9) (hb : b ≤ 9) (ht : t < 2 ^ 24) : f_X4_isStrike (nI a) (nI b) (nI t) (nI (D 0)) (nI (D 1)) (nI (D 2)) (nI (D 3)) (nI (D 4)) (nI (D 5)) (nI (D 6)) = some (b2 (sd_str D a b t)) := by
  unfold f_X4_isStrike sd_str
  rw [s_isDark h ha ht, s_isDark h hb ht]
  cases sd_dark D a t <;> cases sd_dark D b t <;> rfl
theorem s_canStrike {D : Nat → Nat} (h : sd_ok D) {a b t : Nat} (ha : a ≤ 9) (hb : b ≤ 9) (ht : t < 2 ^ 24) : f_X11_canStrike (nI a) (nI b) (nI t) (nI (D 0)) (nI (D 1)) (nI (D 2)) (nI (D 3)) (nI (D 4)) (nI (D 5)) (nI (D 6)) = some (b2 (sd_str D a b t)) := by
  unfold f_X11_canStrike sd_str
  rw [s_isLit h ha ht, s_isLit h hb ht]
  cases sd_dark D a t <;> cases sd_dark D b t <;> rfl
theorem sd_str_P {D : Nat → Nat} (h : sd_ok D) (a b t : Nat) : sd_str D a b (t + sd_P D) = sd_str D a b t := by
  unfold sd_str
  rw [sd_dark_P h, sd_dark_P h]
def is2 (x y : Int32) (n : Nat) : Bool := isl x n && isl y n && !(decide (x = y))
theorem s_areTwo (x y : Int32) {n : Nat} (hn : 2 ≤ n) (hn2 : n ≤ 9) : f_X10_areTwoLands x y (nI n) = some (b2 (is2 x y n)) ∧ f_X11_areTwo x y (nI n) = some (b2 (is2 x y n)) := by
  unfold f_X10_areTwoLands f_X11_areTwo is2
  rw [s_hasLand x hn hn2, s_hasLand y hn hn2, s_isLand x hn hn2, s_isLand y hn hn2]
  simp only [rs_b1_some, b2_0]
  by_cases e : x = y
  · subst e
    simp only [if_true, decide_true]
    cases isl x n <;> exact ⟨rfl, rfl⟩
  · simp only [if_neg e, decide_eq_false e]
    cases isl x n <;> cases isl y n <;> exact ⟨rfl, rfl⟩
theorem is2_of {x y : Int32} {n : Nat} (h : is2 x y n = true) : ∃ a b : Nat, a < n ∧ b < n ∧ x = nI a ∧ y = nI b := by
  unfold is2 at h
  simp at h
  obtain ⟨a, ha, rfl⟩ := isl_of h.1.1
  obtain ⟨b, hb, rfl⟩ := isl_of h.1.2
  exact ⟨a, b, ha, hb, rfl, rfl⟩
theorem e_strike {D : Nat → Nat} (h : sd_ok D) {N : Nat} (hN : 3000 < N) (p1 p2 p3 : Int32) : ∃ r, f_X10_strike N p1 p2 p3 (nI (D 0)) (nI (D 1)) (nI (D 2)) (nI (D 3)) (nI (D 4)) (nI (D 5)) (nI (D 6)) = some r ∧ f_X11_strike N p1 p2 p3 (nI (D 0)) (nI (D 1)) (nI (D 2)) (nI (D 3)) (nI (D 4)) (nI (D 5)) (nI (D 6)) = some r := by
  unfold f_X10_strike f_X11_strike
  have hb := h.2.1
  obtain ⟨q1, q2⟩ := sd_P_b h
  rw [(s_areTwo p1 p2 h.1 h.2.1).1, (s_areTwo p1 p2 h.1 h.2.1).2, s_isYear, s_isYearM]
  simp only [rs_b1_some, b2_0]
  cases h1 : is2 p1 p2 (D 0) with
  | false => exact ⟨-1, rfl, rfl⟩
  | true =>
    cases h2 : isy p3 with
    | false => exact ⟨-2, rfl, rfl⟩
    | true =>
      obtain ⟨a, b, ha, hb', rfl, rfl⟩ := is2_of h1
      obtain ⟨t, ht, rfl⟩ := isy_of h2
      simp only [itf]
      unfold f_X4_firstStrike
      rw [s_period h (by omega), rs_b1_some]
      have e1 := lp_find (body := f_X4_firstStrike_L9 (nI (sd_P D)) (nI a) (nI b) (nI t) (nI (D 0)) (nI (D 1)) (nI (D 2)) (nI (D 3)) (nI (D 4)) (nI (D 5)) (nI (D 6))) (f := fun i => sd_str D a b (t + i)) (s := 0) (t := t) (m := sd_P D) (N := N) (by omega) (fun i hi => by
        unfold f_X4_firstStrike_L9
        rw [Nat.zero_add, if_neg (nI_ge (by omega) (by omega)), nI_add, s_isStrike h (by omega) (by omega) (by omega), rs_b1_some, nI_1]
        cases sd_str D a b (t + i) <;> rfl) (by
        unfold f_X4_firstStrike_L9
        rw [Nat.zero_add, if_pos (nI_le (Nat.le_refl _) (by omega))])
      have e2 := lp_find (body := f_X11_strike_L24 (nI t) (nI a) (nI b) (nI (D 0)) (nI (D 1)) (nI (D 2)) (nI (D 3)) (nI (D 4)) (nI (D 5)) (nI (D 6))) (f := fun i => sd_str D a b (t + i)) (s := t) (t := t) (m := 2880) (N := N) (by omega) (fun i hi => by
        unfold f_X11_strike_L24
        rw [show (2880 : Int32) = nI 2880 from rfl, nI_add, if_neg (nI_ge (by omega) (by omega)), s_canStrike h (by omega) (by omega) (by omega), rs_b1_some, nI_1]
        cases sd_str D a b (t + i) <;> rfl) (by
        unfold f_X11_strike_L24
        rw [show (2880 : Int32) = nI 2880 from rfl, nI_add, if_pos (nI_le (Nat.le_refl _) (by omega))])
      rw [fnd_per (P := sd_P D) (fun i => by rw [← Nat.add_assoc, sd_str_P h]) q1 q2] at e2
      rw [e2]
      refine ⟨_, ?_, rfl⟩
      rw [show (0 : Int32) = nI 0 from rfl, e1]
      rfl
theorem e_strikes {D : Nat → Nat} (h : sd_ok D) {N : Nat} (hN : 20000 < N) (p1 p2 p3 p4 : Int32) : ∃ r, f_X10_strikes N p1 p2 p3 p4 (nI (D 0)) (nI (D 1)) (nI (D 2)) (nI (D 3)) (nI (D 4)) (nI (D 5)) (nI (D 6)) = some r ∧ f_X11_strikes N p1 p2 p3 p4 (nI (D 0)) (nI (D 1)) (nI (D 2)) (nI (D 3)) (nI (D 4)) (nI (D 5)) (nI (D 6)) = some r := by
  unfold f_X10_strikes f_X11_strikes
  have hb := h.2.1
  obtain ⟨q1, q2⟩ := sd_P_b h
  rw [(s_areTwo p1 p2 h.1 h.2.1).1, (s_areTwo p1 p2 h.1 h.2.1).2, s_isYear, s_isYearM, s_within, s_in]
  simp only [rs_b1_some, b2_0]
  cases h1 : is2 p1 p2 (D 0) with
  | false => exact ⟨-1, rfl, rfl⟩
  | true =>
    cases h2 : isy p3 with
    | false => exact ⟨-2, rfl, rfl⟩
    | true =>
      cases h3 : ins p4 0 9999 with
      | false =>
        have e1 : (decide ((0 : Int32).toInt ≤ p4.toInt) && decide (p4.toInt ≤ (9999 : Int32).toInt)) = false := h3
        have e2 : (decide ((0 : Int64).toInt ≤ p4.toInt) && decide (p4.toInt ≤ (9999 : Int64).toInt)) = false := h3
        rw [e1, e2]
        exact ⟨-2, rfl, rfl⟩
      | true =>
        have e1 : (decide ((0 : Int32).toInt ≤ p4.toInt) && decide (p4.toInt ≤ (9999 : Int32).toInt)) = true := h3
        have e2 : (decide ((0 : Int64).toInt ≤ p4.toInt) && decide (p4.toInt ≤ (9999 : Int64).toInt)) = true := h3
        rw [e1, e2]
        obtain ⟨a, b, ha, hb', rfl, rfl⟩ := is2_of h1
        obtain ⟨t, ht, rfl⟩ := isy_of h2
        obtain ⟨m, hm, rfl⟩ := ins_of (b := 9999) h3
        simp only [itf]
        have hlt : m % sd_P D < sd_P D := Nat.mod_lt _ (by omega)
        have hsum := sm_divmod (g := fun i => if sd_str D a b (t + i) then 1 else 0) (P := sd_P D) (fun i => by rw [← Nat.add_assoc, sd_str_P h]) m
        have cX : ∀ mm, mm ≤ 9999 → f_X4_countStrikes N (nI a) (nI b) (nI t) (nI mm) (nI (D 0)) (nI (D 1)) (nI (D 2)) (nI (D 3)) (nI (D 4)) (nI (D 5)) (nI (D 6)) = some (nI (sm (fun i => if sd_str D a b (t + i) then 1 else 0) mm)) := by
          intro mm hmm
          unfold f_X4_countStrikes
          have e : rs_l2 (f_X4_countStrikes_L6 (nI mm) (nI a) (nI b) (nI t) (nI (D 0)) (nI (D 1)) (nI (D 2)) (nI (D 3)) (nI (D 4)) (nI (D 5)) (nI (D 6))) N 0 0 = some (nI (sm (fun i => if sd_str D a b (t + i) then 1 else 0) mm)) := lp_sum (s := 0) (m := mm) (by omega) (fun i c hi => by
            unfold f_X4_countStrikes_L6
            rw [Nat.zero_add, if_neg (nI_ge (by omega) (by omega)), nI_add, s_isStrike h (by omega) (by omega) (by omega), rs_b1_some]
            simp only [b2_0, nI_1]
            cases sd_str D a b (t + i) <;> rfl) (fun c => by
            unfold f_X4_countStrikes_L6
            rw [Nat.zero_add, if_pos (nI_le (Nat.le_refl _) (by omega))])
          rw [e]
          rfl
        have cM : rs_l2 (f_X11_strikes_L40 (nI t) (nI m) (nI a) (nI b) (nI (D 0)) (nI (D 1)) (nI (D 2)) (nI (D 3)) (nI (D 4)) (nI (D 5)) (nI (D 6))) N 0 (nI t) = some (nI (sm (fun i => if sd_str D a b (t + i) then 1 else 0) m)) := lp_sum (s := t) (m := m) (by omega) (fun i c hi => by
            unfold f_X11_strikes_L40
            rw [nI_add, if_neg (nI_ge (by omega) (by omega)), s_canStrike h (by omega) (by omega) (by omega), rs_b1_some]
            simp only [b2_0, nI_1]
            cases sd_str D a b (t + i)
            · show some (Sum.inl (nI c + 0, _)) = _
              rw [show (0 : Int32) = nI 0 from rfl, nI_add]; rfl
            · show some (Sum.inl (nI c + 1, _)) = _
              rw [nI_1]; rfl) (fun c => by
            unfold f_X11_strikes_L40
            rw [nI_add, if_pos (nI_le (Nat.le_refl _) (by omega))])
        rw [s_period h (by omega), rs_b1_some, s_leftOver (by omega) (by omega) (by omega), rs_b1_some, cX _ (by omega), rs_b1_some, cM, rs_b1_some]
        by_cases hc : sd_P D ≤ m
        · rw [if_pos (nI_le hc (by omega)), s_cut (by omega) (by omega) (by omega), rs_b1_some, cX _ (by omega), rs_b1_some, pk_mul, nI_add]
          exact ⟨_, rfl, by rw [← hsum]⟩
        · rw [if_neg (nI_ge (by omega) (by omega))]
          refine ⟨_, rfl, ?_⟩
          rw [Nat.mod_eq_of_lt (by omega)]
