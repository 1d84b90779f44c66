def cur (f : Nat → Bool) : Nat → Nat
  | 0 => 0
  | m + 1 => if f m then cur f m + 1 else 0
def lon (f : Nat → Bool) : Nat → Nat
  | 0 => 0
  | m + 1 => if lon f m < cur f (m + 1) then cur f (m + 1) else lon f m
theorem cur_le (f : Nat → Bool) : ∀ m, cur f m ≤ m
  | 0 => Nat.le_refl _
  | m + 1 => by
    unfold cur
    have := cur_le f m
    split <;> omega
theorem lon_le (f : Nat → Bool) : ∀ m, lon f m ≤ m
  | 0 => Nat.le_refl _
  | m + 1 => by
    unfold lon
    have := lon_le f m
    have := cur_le f (m + 1)
    split <;> omega
theorem cur_run (f : Nat → Bool) : ∀ m i, i < cur f m → f (m - cur f m + i) = true
  | 0, i, h => by simp [cur] at h
  | m + 1, i, h => by
    have hc := cur_le f m
    by_cases hf : f m = true
    · have e : cur f (m + 1) = cur f m + 1 := by simp [cur, hf]
      rw [e] at h ⊢
      by_cases hi : i = cur f m
      · subst hi
        rw [show m + 1 - (cur f m + 1) + cur f m = m by omega]
        exact hf
      · rw [show m + 1 - (cur f m + 1) + i = m - cur f m + i by omega]
        exact cur_run f m i (by omega)
    · simp [cur, hf] at h
theorem cur_max (f : Nat → Bool) : ∀ m l, l ≤ m → (∀ i, i < l → f (m - l + i) = true) → l ≤ cur f m
  | 0, l, h, _ => by omega
  | m + 1, l, h, hr => by
    by_cases hl : l = 0
    · omega
    · have h1 := hr (l - 1) (by omega)
      rw [show m + 1 - l + (l - 1) = m by omega] at h1
      have e : cur f (m + 1) = cur f m + 1 := by simp [cur, h1]
      have := cur_max f m (l - 1) (by omega) (fun i hi => by
        have := hr i (by omega)
        rw [show m + 1 - l + i = m - (l - 1) + i by omega] at this
        exact this)
      omega
theorem lon_run (f : Nat → Bool) : ∀ m, ∃ s, s + lon f m ≤ m ∧ ∀ i, i < lon f m → f (s + i) = true
  | 0 => ⟨0, Nat.le_refl _, fun i h => by simp [lon] at h⟩
  | m + 1 => by
    unfold lon
    split
    · have := cur_le f (m + 1)
      exact ⟨m + 1 - cur f (m + 1), by omega, fun i hi => cur_run f (m + 1) i hi⟩
    · obtain ⟨s, h1, h2⟩ := lon_run f m
      exact ⟨s, by omega, h2⟩
theorem lon_step (f : Nat → Bool) (m : Nat) : lon f m ≤ lon f (m + 1) ∧ cur f (m + 1) ≤ lon f (m + 1) := by
  show lon f m ≤ (if lon f m < cur f (m + 1) then cur f (m + 1) else lon f m) ∧ cur f (m + 1) ≤ (if lon f m < cur f (m + 1) then cur f (m + 1) else lon f m)
  split <;> omega
theorem lon_max (f : Nat → Bool) : ∀ m s l, s + l ≤ m → (∀ i, i < l → f (s + i) = true) → l ≤ lon f m
  | 0, s, l, h, _ => by omega
  | m + 1, s, l, h, hr => by
    obtain ⟨a, b⟩ := lon_step f m
    by_cases he : s + l ≤ m
    · exact Nat.le_trans (lon_max f m s l he hr) a
    · have : l ≤ cur f (m + 1) := cur_max f (m + 1) l (by omega) (fun i hi => by
        rw [show m + 1 - l + i = s + i by omega]
        exact hr i hi)
      omega
theorem per_mod {α : Type} {f : Nat → α} {P : Nat} (h : ∀ i, f (i + P) = f i) (j : Nat) : f j = f (j % P) := by
  have e := per_mul h (j / P) (j % P)
  have e2 : j % P + j / P * P = j := by
    have := Nat.div_add_mod j P
    rw [Nat.mul_comm] at this
    omega
  rw [e2] at e
  exact e
theorem per_all {f : Nat → Bool} {P : Nat} (h : ∀ i, f (i + P) = f i) (hP : 1 ≤ P) {s l : Nat} (hl : P ≤ l) (hr : ∀ i, i < l → f (s + i) = true) : ∀ j, f j = true := by
  intro j
  rw [per_mod h j]
  have hlt : (j % P + (P - s % P)) % P < P := Nat.mod_lt _ (by omega)
  have h1 := hr ((j % P + (P - s % P)) % P) (by omega)
  rw [per_mod h] at h1
  have hs : s % P < P := Nat.mod_lt _ (by omega)
  have hj : j % P < P := Nat.mod_lt _ (by omega)
  have e : (s + (j % P + (P - s % P)) % P) % P = j % P := by
    rw [Nat.add_mod, Nat.mod_mod, ← Nat.add_mod, Nat.add_mod s]
    by_cases c : s % P + (j % P + (P - s % P)) % P < P
    · have e2 : (j % P + (P - s % P)) % P = j % P + (P - s % P) - P ∨ (j % P + (P - s % P)) % P = j % P + (P - s % P) := by
        by_cases c2 : j % P + (P - s % P) < P
        · exact Or.inr (Nat.mod_eq_of_lt c2)
        · left
          rw [Nat.mod_eq_sub_mod (by omega), Nat.mod_eq_of_lt (by omega)]
      rcases e2 with e2 | e2
      · rw [e2, show s % P + (j % P + (P - s % P) - P) % P = j % P by rw [Nat.mod_eq_of_lt (by omega)]; omega]
        exact Nat.mod_eq_of_lt hj
      · rw [e2] at c ⊢
        omega
    · have e2 : (j % P + (P - s % P)) % P = j % P + (P - s % P) - P ∨ (j % P + (P - s % P)) % P = j % P + (P - s % P) := by
        by_cases c2 : j % P + (P - s % P) < P
        · exact Or.inr (Nat.mod_eq_of_lt c2)
        · left
          rw [Nat.mod_eq_sub_mod (by omega), Nat.mod_eq_of_lt (by omega)]
      rcases e2 with e2 | e2
      · rw [e2] at c
        omega
      · rw [e2]
        have : (j % P + (P - s % P)) % P = j % P + (P - s % P) := e2
        rw [this, show s % P + (j % P + (P - s % P)) = j % P + P by omega, Nat.add_mod_right, Nat.mod_eq_of_lt hj]
  rw [e] at h1
  exact h1
theorem lon_per {f : Nat → Bool} {P : Nat} (h : ∀ i, f (i + P) = f i) (hP : 1 ≤ P) (m sp : Nat) (hsp : sp = if 2 * P < m then 2 * P else m) : (if lon f sp < P then lon f sp else m) = lon f m := by
  have all_m : ∀ z, (∀ j, f j = true) → lon f z = z := fun z ha => Nat.le_antisymm (lon_le f z) (lon_max f z 0 z (by omega) (fun i _ => ha _))
  by_cases hc : lon f sp < P
  · rw [if_pos hc]
    by_cases hm : 2 * P < m
    · rw [if_pos hm] at hsp
      subst hsp
      obtain ⟨s1, a1, b1⟩ := lon_run f (2 * P)
      have up : lon f (2 * P) ≤ lon f m := lon_max f m s1 _ (by omega) b1
      obtain ⟨s, a, b⟩ := lon_run f m
      by_cases hl : P ≤ lon f m
      · have := all_m (2 * P) (per_all h hP hl b)
        omega
      · have hs : s % P < P := Nat.mod_lt _ (by omega)
        have : lon f m ≤ lon f (2 * P) := lon_max f (2 * P) (s % P) _ (by omega) (fun i hi => by
          have := b i hi
          have e2 : s + i = s % P + i + s / P * P := by
            have := Nat.div_add_mod s P
            rw [Nat.mul_comm] at this
            omega
          rw [e2, per_mul h] at this
          exact this)
        omega
    · rw [if_neg hm] at hsp
      rw [hsp]
  · rw [if_neg hc]
    obtain ⟨s, a, b⟩ := lon_run f sp
    exact (all_m m (per_all h hP (by omega) b)).symm
theorem lp_lon {body : Int32 → Int32 → Int32 → Option ((Int32 × Int32 × Int32) ⊕ Int32)} {f : Nat → Bool} {s m N : Nat} (hN : m < N)
    (hs : ∀ i, i < m → body (nI (lon f i)) (nI (cur f i)) (nI (s + i)) = some (.inl (nI (lon f (i + 1)), nI (cur f (i + 1)), nI (s + i + 1)))) (he : ∀ c d, body c d (nI (s + m)) = some (.inr c)) : rs_l3 body N 0 0 (nI s) = some (nI (lon f m)) := by
  unfold rs_l3
  refine rs_loop_run (fun i => (nI (lon f i), nI (cur f i), nI (s + i))) m rfl hN ?_ ?_
  · intro i hi
    exact hs i hi
  · exact he _ _
theorem s_longestDark {D : Nat → Nat} (h : sd_ok D) {k t m N : Nat} (hk : k ≤ 9) (ht : t ≤ 99999) (hm : m ≤ 9999) (hN : 20000 < N) : f_X4_longestDark N (nI k) (nI t) (nI m) (nI (D 0)) (nI (D 1)) (nI (D 2)) (nI (D 3)) (nI (D 4)) (nI (D 5)) (nI (D 6)) = some (nI (lon (fun i => sd_dark D k (t + i)) m)) := by
  obtain ⟨q1, q2⟩ := sd_P_b h
  unfold f_X4_longestDark
  rw [s_period h (by omega), rs_b1_some]
  simp only [rs_lt_eq]
  rw [show (2 : Int32) = nI 2 from rfl, pk_mul]
  have esp : (if nI (2 * sd_P D) < nI m then nI (2 * sd_P D) else nI m) = nI (if 2 * sd_P D < m then 2 * sd_P D else m) := by
    by_cases c : 2 * sd_P D < m
    · rw [if_pos (nI_lt c (by omega)), if_pos c]
    · rw [if_neg (nI_nlt (by omega) (by omega)), if_neg c]
  rw [esp]
  generalize hsp : (if 2 * sd_P D < m then 2 * sd_P D else m) = sp
  have hspm : sp ≤ 9999 := by rw [← hsp]; split <;> omega
  have e : rs_l3 (f_X4_longestDark_L25 (nI sp) (nI k) (nI t) (nI (D 0)) (nI (D 1)) (nI (D 2)) (nI (D 3)) (nI (D 4)) (nI (D 5)) (nI (D 6))) N 0 0 0 = some (nI (lon (fun i => sd_dark D k (t + i)) sp)) := lp_lon (s := 0) (m := sp) (by omega) (fun i hi => by
    have l1 := lon_le (fun i => sd_dark D k (t + i)) i
    have l2 := cur_le (fun i => sd_dark D k (t + i)) i
    have l3 := cur_le (fun i => sd_dark D k (t + i)) (i + 1)
    unfold f_X4_longestDark_L25
    rw [Nat.zero_add, if_neg (nI_ge (by omega) (by omega)), nI_add, s_isDark h hk (by omega), rs_b1_some]
    have ec : (if b2 (sd_dark D k (t + i)) = 0 then some 0 else some (nI (cur (fun i => sd_dark D k (t + i)) i) + 1)) = some (nI (cur (fun i => sd_dark D k (t + i)) (i + 1))) := by
      rw [nI_1]
      unfold cur
      cases sd_dark D k (t + i) <;> rfl
    rw [ec, rs_b1_some]
    simp only [rs_lt_eq]
    have el : (if nI (lon (fun i => sd_dark D k (t + i)) i) < nI (cur (fun i => sd_dark D k (t + i)) (i + 1)) then nI (cur (fun i => sd_dark D k (t + i)) (i + 1)) else nI (lon (fun i => sd_dark D k (t + i)) i)) = nI (lon (fun i => sd_dark D k (t + i)) (i + 1)) := by
      show _ = nI (if lon (fun i => sd_dark D k (t + i)) i < cur (fun i => sd_dark D k (t + i)) (i + 1) then cur (fun i => sd_dark D k (t + i)) (i + 1) else lon (fun i => sd_dark D k (t + i)) i)
      by_cases c : lon (fun i => sd_dark D k (t + i)) i < cur (fun i => sd_dark D k (t + i)) (i + 1)
      · rw [if_pos (nI_lt c (by omega)), if_pos c]
      · rw [if_neg (nI_nlt (by omega) (by omega)), if_neg c]
    rw [el, nI_1]) (fun c d => by
    unfold f_X4_longestDark_L25
    rw [Nat.zero_add, if_pos (nI_le (Nat.le_refl _) (by omega))])
  rw [e, rs_b1_some]
  have hp := lon_per (f := fun i => sd_dark D k (t + i)) (P := sd_P D) (fun i => by rw [← Nat.add_assoc, sd_dark_P h]) q1 m sp hsp.symm
  have l1 := lon_le (fun i => sd_dark D k (t + i)) sp
  by_cases c : lon (fun i => sd_dark D k (t + i)) sp < sd_P D
  · rw [if_pos c] at hp
    rw [if_pos (nI_lt c (by omega)), hp]
  · rw [if_neg c] at hp
    rw [if_neg (nI_nlt (by omega) (by omega)), ← hp]
theorem e_longest {D : Nat → Nat} (h : sd_ok D) {N : Nat} (hN : 20000 < N) (p1 p2 p3 : Int32) : ∃ r, f_X10_longest N p1 p2 p3 (nI (D 0)) (nI (D 1)) (nI (D 2)) (nI (D 3)) (nI (D 4)) (nI (D 5)) (nI (D 6)) = some r ∧ f_X11_longest N p1 p2 p3 (nI (D 0)) (nI (D 1)) (nI (D 2)) (nI (D 3)) (nI (D 4)) (nI (D 5)) (nI (D 6)) = some r := by
  unfold f_X10_longest f_X11_longest
  have hb := h.2.1
  rw [s_hasLand p1 h.1 h.2.1, s_isLand p1 h.1 h.2.1, s_isYear, s_isYearM, s_within, s_in]
  simp only [rs_b1_some, b2_0]
  cases h1 : isl p1 (D 0) with
  | false => exact ⟨-1, rfl, rfl⟩
  | true =>
    cases h2 : isy p2 with
    | false => exact ⟨-2, rfl, rfl⟩
    | true =>
      cases h3 : ins p3 0 9999 with
      | false =>
        have e1 : (decide ((0 : Int32).toInt ≤ p3.toInt) && decide (p3.toInt ≤ (9999 : Int32).toInt)) = false := h3
        have e2 : (decide ((0 : Int64).toInt ≤ p3.toInt) && decide (p3.toInt ≤ (9999 : Int64).toInt)) = false := h3
        rw [e1, e2]
        exact ⟨-2, rfl, rfl⟩
      | true =>
        have e1 : (decide ((0 : Int32).toInt ≤ p3.toInt) && decide (p3.toInt ≤ (9999 : Int32).toInt)) = true := h3
        have e2 : (decide ((0 : Int64).toInt ≤ p3.toInt) && decide (p3.toInt ≤ (9999 : Int64).toInt)) = true := h3
        rw [e1, e2]
        obtain ⟨k, hk, rfl⟩ := isl_of h1
        obtain ⟨t, ht, rfl⟩ := isy_of h2
        obtain ⟨m, hm, rfl⟩ := ins_of (b := 9999) h3
        simp only [itf]
        rw [s_longestDark h (by omega) ht hm hN]
        refine ⟨_, rfl, ?_⟩
        have e : rs_l3 (f_X11_longest_L41 (nI t) (nI m) (nI k) (nI (D 0)) (nI (D 1)) (nI (D 2)) (nI (D 3)) (nI (D 4)) (nI (D 5)) (nI (D 6))) N 0 0 (nI t) = some (nI (lon (fun i => sd_dark D k (t + i)) m)) := lp_lon (s := t) (m := m) (by omega) (fun i hi => by
          have l1 := lon_le (fun i => sd_dark D k (t + i)) i
          have l2 := cur_le (fun i => sd_dark D k (t + i)) i
          have l3 := cur_le (fun i => sd_dark D k (t + i)) (i + 1)
          unfold f_X11_longest_L41
          rw [nI_add, if_neg (nI_ge (by omega) (by omega)), s_isLit h (by omega) (by omega), rs_b1_some]
          have ec : (if b2 (!sd_dark D k (t + i)) = 0 then some (nI (cur (fun i => sd_dark D k (t + i)) i) + 1) else some 0) = some (nI (cur (fun i => sd_dark D k (t + i)) (i + 1))) := by
            rw [nI_1]
            unfold cur
            cases sd_dark D k (t + i) <;> rfl
          rw [ec, rs_b1_some]
          have el : (if nI (cur (fun i => sd_dark D k (t + i)) (i + 1)) ≤ nI (lon (fun i => sd_dark D k (t + i)) i) then some (nI (lon (fun i => sd_dark D k (t + i)) i)) else some (nI (cur (fun i => sd_dark D k (t + i)) (i + 1)))) = some (nI (lon (fun i => sd_dark D k (t + i)) (i + 1))) := by
            show _ = some (nI (if lon (fun i => sd_dark D k (t + i)) i < cur (fun i => sd_dark D k (t + i)) (i + 1) then cur (fun i => sd_dark D k (t + i)) (i + 1) else lon (fun i => sd_dark D k (t + i)) i))
            by_cases c : lon (fun i => sd_dark D k (t + i)) i < cur (fun i => sd_dark D k (t + i)) (i + 1)
            · rw [if_neg (nI_ge c (by omega)), if_pos c]
            · rw [if_pos (nI_le (by omega) (by omega)), if_neg c]
          rw [el, rs_b1_some, nI_1]) (fun c d => by
          unfold f_X11_longest_L41
          rw [nI_add, if_pos (nI_le (Nat.le_refl _) (by omega))])
        rw [e]
        rfl
