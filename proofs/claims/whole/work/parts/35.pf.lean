def cur (f : Nat → Bool) : Nat → Nat
  | 0 => 0
  | m + 1 => if f m then cur f m + 1 else 0
def lon (f : Nat → Bool) : Nat → Nat
  | 0 => 0
  | m + 1 => if lon f m < cur f (m + 1) then cur f (m + 1) else lon f m
theorem cur_succ (f : Nat → Bool) (m : Nat) : cur f (m + 1) = if f m then cur f m + 1 else 0 := rfl
theorem cur_le (f : Nat → Bool) : ∀ m, cur f m ≤ m
  | 0 => Nat.le_refl _
  | m + 1 => by
    unfold cur
    have := cur_le f m
    split <;> omega
theorem lon_le (f : Nat → Bool) : ∀ m, lon f m ≤ m
  | 0 => Nat.le_refl _
  | m + 1 => by
    unfold lon
    have := lon_le f m
    have := cur_le f (m + 1)
    split <;> omega
theorem cur_run (f : Nat → Bool) : ∀ m i, i < cur f m → f (m - cur f m + i) = true
  | 0, i, h => by simp [cur] at h
  | m + 1, i, h => by
    have hc := cur_le f m
    by_cases hf : f m = true
    · have e : cur f (m + 1) = cur f m + 1 := by simp [cur, hf]
      rw [e] at h ⊢
      by_cases hi : i = cur f m
      · subst hi
        rw [show m + 1 - (cur f m + 1) + cur f m = m by omega]
        exact hf
      · rw [show m + 1 - (cur f m + 1) + i = m - cur f m + i by omega]
        exact cur_run f m i (by omega)
    · simp [cur, hf] at h
theorem cur_max (f : Nat → Bool) : ∀ m l, l ≤ m → (∀ i, i < l → f (m - l + i) = true) → l ≤ cur f m
  | 0, l, h, _ => by omega
  | m + 1, l, h, hr => by
    by_cases hl : l = 0
    · omega
    · have h1 := hr (l - 1) (by omega)
      rw [show m + 1 - l + (l - 1) = m by omega] at h1
      have e : cur f (m + 1) = cur f m + 1 := by simp [cur, h1]
      have := cur_max f m (l - 1) (by omega) (fun i hi => by
        have := hr i (by omega)
        rw [show m + 1 - l + i = m - (l - 1) + i by omega] at this
        exact this)
      omega
theorem lon_run (f : Nat → Bool) : ∀ m, ∃ s, s + lon f m ≤ m ∧ ∀ i, i < lon f m → f (s + i) = true
  | 0 => ⟨0, Nat.le_refl _, fun i h => by simp [lon] at h⟩
  | m + 1 => by
    unfold lon
    split
    · have := cur_le f (m + 1)
      exact ⟨m + 1 - cur f (m + 1), by omega, fun i hi => cur_run f (m + 1) i hi⟩
    · obtain ⟨s, h1, h2⟩ := lon_run f m
      exact ⟨s, by omega, h2⟩
theorem lon_step (f : Nat → Bool) (m : Nat) : lon f m ≤ lon f (m + 1) ∧ cur f (m + 1) ≤ lon f (m + 1) := by
  show lon f m ≤ (if lon f m < cur f (m + 1) then cur f (m + 1) else lon f m) ∧ cur f (m + 1) ≤ (if lon f m < cur f (m + 1) then cur f (m + 1) else lon f m)
  split <;> omega
theorem lon_max (f : Nat → Bool) : ∀ m s l, s + l ≤ m → (∀ i, i < l → f (s + i) = true) → l ≤ lon f m
  | 0, s, l, h, _ => by omega
  | m + 1, s, l, h, hr => by
    obtain ⟨a, b⟩ := lon_step f m
    by_cases he : s + l ≤ m
    · exact Nat.le_trans (lon_max f m s l he hr) a
    · have : l ≤ cur f (m + 1) := cur_max f (m + 1) l (by omega) (fun i hi => by
        rw [show m + 1 - l + i = s + i by omega]
        exact hr i hi)
      omega
theorem per_mod {α : Type} {f : Nat → α} {P : Nat} (h : ∀ i, f (i + P) = f i) (j : Nat) : f j = f (j % P) := by
  have e := per_mul h (j / P) (j % P)
  have e2 : j % P + j / P * P = j := by
    have := Nat.div_add_mod j P
    rw [Nat.mul_comm] at this
    omega
  rw [e2] at e
  exact e
theorem per_all {f : Nat → Bool} {P : Nat} (h : ∀ i, f (i + P) = f i) (hP : 1 ≤ P) {s l : Nat} (hl : P ≤ l) (hr : ∀ i, i < l → f (s + i) = true) : ∀ j, f j = true := by
  intro j
  have h1 : f j = f (j + s * P) := (per_mul h s j).symm
  have hle : s ≤ s * P := Nat.le_mul_of_pos_right s (by omega)
  have e2 : j + s * P = (s + (j + s * P - s) % P) + (j + s * P - s) / P * P := by
    have := Nat.div_add_mod (j + s * P - s) P
    rw [Nat.mul_comm] at this
    omega
  rw [h1, e2, per_mul h]
  exact hr _ (Nat.lt_of_lt_of_le (Nat.mod_lt _ (by omega)) hl)
theorem lon_per {f : Nat → Bool} {P : Nat} (h : ∀ i, f (i + P) = f i) (hP : 1 ≤ P) (m sp : Nat) (hsp : sp = if 2 * P < m then 2 * P else m) : (if lon f sp < P then lon f sp else m) = lon f m := by
  have all_m : ∀ z, (∀ j, f j = true) → lon f z = z := fun z ha => Nat.le_antisymm (lon_le f z) (lon_max f z 0 z (by omega) (fun i _ => ha _))
  by_cases hc : lon f sp < P
  · rw [if_pos hc]
    by_cases hm : 2 * P < m
    · rw [if_pos hm] at hsp
      subst hsp
      obtain ⟨s1, a1, b1⟩ := lon_run f (2 * P)
      have up : lon f (2 * P) ≤ lon f m := lon_max f m s1 _ (by omega) b1
      obtain ⟨s, a, b⟩ := lon_run f m
      by_cases hl : P ≤ lon f m
      · have := all_m (2 * P) (per_all h hP hl b)
        omega
      · have hs : s % P < P := Nat.mod_lt _ (by omega)
        have : lon f m ≤ lon f (2 * P) := lon_max f (2 * P) (s % P) _ (by omega) (fun i hi => by
          have := b i hi
          have e2 : s + i = s % P + i + s / P * P := by
            have := Nat.div_add_mod s P
            rw [Nat.mul_comm] at this
            omega
          rw [e2, per_mul h] at this
          exact this)
        omega
    · rw [if_neg hm] at hsp
      rw [hsp]
  · rw [if_neg hc]
    obtain ⟨s, a, b⟩ := lon_run f sp
    exact (all_m m (per_all h hP (by omega) b)).symm
theorem lp_lon {body : Int32 → Int32 → Int32 → Option ((Int32 × Int32 × Int32) ⊕ Int32)} {f : Nat → Bool} {s m N : Nat} (hN : m < N)
    (hs : ∀ i, i < m → body (nI (lon f i)) (nI (cur f i)) (nI (s + i)) = some (.inl (nI (lon f (i + 1)), nI (cur f (i + 1)), nI (s + i + 1)))) (he : ∀ c d, body c d (nI (s + m)) = some (.inr c)) : rs_l3 body N 0 0 (nI s) = some (nI (lon f m)) := by
  unfold rs_l3
  refine rs_loop_run (fun i => (nI (lon f i), nI (cur f i), nI (s + i))) m rfl hN ?_ ?_
  · intro i hi
    exact hs i hi
  · exact he _ _
theorem s_longestDark {D : Nat → Nat} (h : sd_ok D) {k t m N : Nat} (hk : k ≤ 9) (ht : t ≤ 99999) (hm : m ≤ 9999) (hN : 20000 < N) : f_X4_longestDark N (nI k) (nI t) (nI m) (nI (D 0)) (nI (D 1)) (nI (D 2)) (nI (D 3)) (nI (D 4)) (nI (D 5)) (nI (D 6)) = some (nI (lon (fun i => sd_dark D k (t + i)) m)) := by
  obtain ⟨q1, q2⟩ := sd_P_b h
  unfold f_X4_longestDark
  rw [s_period h (by omega), rs_b1_some]
  simp only [rs_lt_eq]
  rw [show (2 : Int32) = nI 2 from rfl, pk_mul]
  have esp : (if nI (2 * sd_P D) < nI m then nI (2 * sd_P D) else nI m) = nI (if 2 * sd_P D < m then 2 * sd_P D else m) := by
    by_cases c : 2 * sd_P D < m
    · rw [if_pos (nI_lt c (by omega)), if_pos c]
    · rw [if_neg (nI_nlt (by omega) (by omega)), if_neg c]
  rw [esp]
  generalize hsp : (if 2 * sd_P D < m then 2 * sd_P D else m) = sp
  have hspm : sp ≤ 9999 := by rw [← hsp]; split <;> omega
  have e : rs_l3 (f_X4_longestDark_L25 (nI sp) (nI k) (nI t) (nI (D 0)) (nI (D 1)) (nI (D 2)) (nI (D 3)) (nI (D 4)) (nI (D 5)) (nI (D 6))) N 0 0 0 = some (nI (lon (fun i => sd_dark D k (t + i)) sp)) := lp_lon (s := 0) (m := sp) (by omega) (fun i hi => by
    have l1 := lon_le (fun i => sd_dark D k (t + i)) i
    have l2 := cur_le (fun i => sd_dark D k (t + i)) i
    have l3 := cur_le (fun i => sd_dark D k (t + i)) (i + 1)
    unfold f_X4_longestDark_L25
    rw [Nat.zero_add, if_neg (nI_ge (by omega) (by omega)), nI_add, s_isDark h hk (by omega), rs_b1_some]
    have ec : (if b2 (sd_dark D k (t + i)) = 0 then some 0 else some (nI (cur (fun i => sd_dark D k (t + i)) i) + 1)) = some (nI (cur (fun i => sd_dark D k (t + i)) (i + 1))) := by
      rw [nI_1]
      rw [cur_succ]
      cases sd_dark D k (t + i) <;> rfl
    rw [ec, rs_b1_some]
    simp only [rs_lt_eq]
    have el : (if nI (lon (fun i => sd_dark D k (t + i)) i) < nI (cur (fun i => sd_dark D k (t + i)) (i + 1)) then nI (cur (fun i => sd_dark D k (t + i)) (i + 1)) else nI (lon (fun i => sd_dark D k (t + i)) i)) = nI (lon (fun i => sd_dark D k (t + i)) (i + 1)) := by
      show _ = nI (if lon (fun i => sd_dark D k (t + i)) i < cur (fun i => sd_dark D k (t + i)) (i + 1) then cur (fun i => sd_dark D k (t + i)) (i + 1) else lon (fun i => sd_dark D k (t + i)) i)
      by_cases c : lon (fun i => sd_dark D k (t + i)) i < cur (fun i => sd_dark D k (t + i)) (i + 1)
      · rw [if_pos (nI_lt c (by omega)), if_pos c]
      · rw [if_neg (nI_nlt (by omega) (by omega)), if_neg c]
    rw [el, nI_1]) (fun c d => by
    unfold f_X4_longestDark_L25
    rw [Nat.zero_add, if_pos (nI_le (Nat.le_refl _) (by omega))])
  rw [e, rs_b1_some]
  have hp := lon_per (f := fun i => sd_dark D k (t + i)) (P := sd_P D) (fun i => by rw [← Nat.add_assoc, sd_dark_P h]) q1 m sp hsp.symm
  have l1 := lon_le (fun i => sd_dark D k (t + i)) sp
  by_cases c : lon (fun i => sd_dark D k (t + i)) sp < sd_P D
  · rw [if_pos c] at hp
    rw [if_pos (nI_lt c (by omega)), hp]
  · rw [if_neg c] at hp
    rw [if_neg (nI_nlt (by omega) (by omega)), ← hp]
theorem e_longest {D : Nat → Nat} (h : sd_ok D) {N : Nat} (hN : 20000 < N) (p1 p2 p3 : Int32) : ∃ r, f_X10_longest N p1 p2 p3 (nI (D 0)) (nI (D 1)) (nI (D 2)) (nI (D 3)) (nI (D 4)) (nI (D 5)) (nI (D 6)) = some r ∧ f_X11_longest N p1 p2 p3 (nI (D 0)) (nI (D 1)) (nI (D 2)) (nI (D 3)) (nI (D 4)) (nI (D 5)) (nI (D 6)) = some r := by
  unfold f_X10_longest f_X11_longest
  have hb := h.2.1
  rw [s_hasLand p1 h.1 h.2.1, s_isLand p1 h.1 h.2.1, s_isYear, s_isYearM, s_within, s_in]
  simp only [rs_b1_some, b2_0]
  cases h1 : isl p1 (D 0) with
  | false => exact ⟨-1, rfl, rfl⟩
  | true =>
    cases h2 : isy p2 with
    | false => exact ⟨-2, rfl, rfl⟩
    | true =>
      cases h3 : ins p3 0 9999 with
      | false =>
        have e1 : (decide ((0 : Int32).toInt ≤ p3.toInt) && decide (p3.toInt ≤ (9999 : Int32).toInt)) = false := h3
        have e2 : (decide ((0 : Int64).toInt ≤ p3.toInt) && decide (p3.toInt ≤ (9999 : Int64).toInt)) = false := h3
        rw [e1, e2]
        exact ⟨-2, rfl, rfl⟩
      | true =>
        have e1 : (decide ((0 : Int32).toInt ≤ p3.toInt) && decide (p3.toInt ≤ (9999 : Int32).toInt)) = true := h3
        have e2 : (decide ((0 : Int64).toInt ≤ p3.toInt) && decide (p3.toInt ≤ (9999 : Int64).toInt)) = true := h3
        rw [e1, e2]
        obtain ⟨k, hk, rfl⟩ := isl_of h1
        obtain ⟨t, ht, rfl⟩ := isy_of h2
        obtain ⟨m, hm, rfl⟩ := ins_of (b := 9999) h3
        simp only [itf]
        rw [s_longestDark h (by omega) ht hm hN]
        refine ⟨_, rfl, ?_⟩
        have e : rs_l3 (f_X11_longest_L41 (nI t) (nI m) (nI k) (nI (D 0)) (nI (D 1)) (nI (D 2)) (nI (D 3)) (nI (D 4)) (nI (D 5)) (nI (D 6))) N 0 0 (nI t) = some (nI (lon (fun i => sd_dark D k (t + i)) m)) := lp_lon (s := t) (m := m) (by omega) (fun i hi => by
          have l1 := lon_le (fun i => sd_dark D k (t + i)) i
          have l2 := cur_le (fun i => sd_dark D k (t + i)) i
          have l3 := cur_le (fun i => sd_dark D k (t + i)) (i + 1)
          unfold f_X11_longest_L41
          rw [nI_add, if_neg (nI_ge (by omega) (by omega)), s_isLit h (by omega) (by omega), rs_b1_some]
          have ec : (if b2 (!sd_dark D k (t + i)) = 0 then some (nI (cur (fun i => sd_dark D k (t + i)) i) + 1) else some 0) = some (nI (cur (fun i => sd_dark D k (t + i)) (i + 1))) := by
            rw [nI_1]
            rw [cur_succ]
            cases sd_dark D k (t + i) <;> rfl
          rw [ec, rs_b1_some]
          have el : (if nI (cur (fun i => sd_dark D k (t + i)) (i + 1)) ≤ nI (lon (fun i => sd_dark D k (t + i)) i) then some (nI (lon (fun i => sd_dark D k (t + i)) i)) else some (nI (cur (fun i => sd_dark D k (t + i)) (i + 1)))) = some (nI (lon (fun i => sd_dark D k (t + i)) (i + 1))) := by
            show _ = some (nI (if lon (fun i => sd_dark D k (t + i)) i < cur (fun i => sd_dark D k (t + i)) (i + 1) then cur (fun i => sd_dark D k (t + i)) (i + 1) else lon (fun i => sd_dark D k (t + i)) i))
            by_cases c : lon (fun i => sd_dark D k (t + i)) i < cur (fun i => sd_dark D k (t + i)) (i + 1)
            · rw [if_neg (nI_ge c (by omega)), if_pos c]
            · rw [if_pos (nI_le (by omega) (by omega)), if_neg c]
          rw [el, rs_b1_some, nI_1]) (fun c d => by
          unfold f_X11_longest_L41
          rw [nI_add, if_pos (nI_le (Nat.le_refl _) (by omega))])
        rw [e]
        rfl
-- rents
theorem lp_while {body : Int32 → Option (Int32 ⊕ Int32)} {f : Nat → Bool} {m N : Nat} (hN : m < N)
    (hs : ∀ i, i < m → body (nI i) = if f i then some (.inr (nI i)) else some (.inl (nI (i + 1)))) (he : body (nI m) = some (.inr (nI m))) : rs_l1 body N 0 = some (nI ((fnd f m).getD m)) := by
  unfold rs_l1
  cases hf : fnd f m with
  | none =>
    have hn := fnd_none hf
    exact rs_loop_run (body := fun s : Int32 => body s) (N := N) (s0 := 0) (fun i => nI i) m (r := nI m) rfl hN (fun i hi => by show body (nI i) = _; rw [hs i hi, hn i hi]; rfl) he
  | some i =>
    have key : ∀ m, fnd f m = some i → i < m ∧ f i = true ∧ ∀ j, j < i → f j = false := by
      intro m
      induction m with
      | zero => intro h; cases h
      | succ m ih =>
        intro h
        unfold fnd at h
        cases hm : fnd f m with
        | some j =>
          rw [hm] at h
          cases h
          obtain ⟨a, b, c⟩ := ih hm
          exact ⟨by omega, b, c⟩
        | none =>
          rw [hm] at h
          by_cases hfm : f m = true
          · simp [hfm] at h
            subst h
            exact ⟨by omega, hfm, fun j hj => fnd_none hm j hj⟩
          · simp [hfm] at h
    obtain ⟨h1, h2, h3⟩ := key m hf
    exact rs_loop_run (body := fun s : Int32 => body s) (N := N) (s0 := 0) (fun j => nI j) i (r := nI i) rfl (by omega) (fun j hj => by show body (nI j) = _; rw [hs j (by omega), h3 j hj]; rfl) (by show body (nI i) = _; rw [hs i h1, h2]; rfl)
theorem fnd_le {f : Nat → Bool} : ∀ {m : Nat}, (fnd f m).getD m ≤ m
  | 0 => Nat.le_refl _
  | m + 1 => by
    have := @fnd_le f m
    unfold fnd
    cases hm : fnd f m with
    | some j => rw [hm] at this; simp at this ⊢; omega
    | none =>
      dsimp only
      by_cases hf : f m = true <;> simp [hf]
theorem fnd_cong {f g : Nat → Bool} : ∀ {m : Nat}, (∀ i, i < m → f i = g i) → fnd f m = fnd g m
  | 0, _ => rfl
  | m + 1, h => by
    unfold fnd
    rw [fnd_cong (fun i hi => h i (by omega)), h m (by omega)]
def sd_st (D : Nat → Nat) (k y n : Nat) : Bool := !(decide (n + 1 ≤ y) && sd_dark D k (y - 1 - n))
def sd_na (D : Nat → Nat) (k y : Nat) : Nat := (fnd (sd_st D k y) 9).getD 9
def sd_g (D : Nat → Nat) (k y : Nat) : Nat := if sd_cov D k y && sd_slit D k y then sd_na D k y else 0
theorem sd_g_P {D : Nat → Nat} (h : sd_ok D) (k y : Nat) (hy : 9 ≤ y) : sd_g D k (y + sd_P D) = sd_g D k y := by
  unfold sd_g
  rw [sd_cov_P h, sd_slit_P h]
  have : sd_na D k (y + sd_P D) = sd_na D k y := by
    unfold sd_na
    rw [fnd_cong (f := sd_st D k (y + sd_P D)) (g := sd_st D k y)]
    intro i hi
    unfold sd_st
    rw [show y + sd_P D - 1 - i = (y - 1 - i) + sd_P D by omega, sd_dark_P h]
    have e1 : decide (i + 1 ≤ y + sd_P D) = true := by simp; omega
    have e2 : decide (i + 1 ≤ y) = true := by simp; omega
    rw [e1, e2]
  rw [this]
theorem s_nightAhead {D : Nat → Nat} (h : sd_ok D) {k y N : Nat} (hk : k ≤ 9) (hy : y < 2 ^ 24) (hN : 10 < N) : f_X4_nightAhead N (nI k) (nI y) (nI (D 0)) (nI (D 1)) (nI (D 2)) (nI (D 3)) (nI (D 4)) (nI (D 5)) (nI (D 6)) = some (nI (sd_na D k y)) := by
  unfold f_X4_nightAhead
  have e : rs_l1 (f_X4_nightAhead_L2 (nI y) (nI k) (nI (D 0)) (nI (D 1)) (nI (D 2)) (nI (D 3)) (nI (D 4)) (nI (D 5)) (nI (D 6))) N 0 = some (nI (sd_na D k y)) := lp_while (m := 9) (by omega) (fun i hi => by
    unfold f_X4_nightAhead_L2 sd_st
    rw [if_neg (show ¬ (9 : Int32) ≤ nI i from nI_ge (b := 9) (by omega) (by omega)), nI_1]
    by_cases c : i + 1 ≤ y
    · rw [pk_sub (a := y) (b := i) (by omega), if_neg (show ¬ nI (y - i) < (1 : Int32) from nI_nlt (b := 1) (by omega) (by omega)), show nI (y - i) - (1 : Int32) = nI (y - 1 - i) from by rw [show (1 : Int32) = nI 1 from rfl, pk_sub (by omega), show y - i - 1 = y - 1 - i by omega], s_isDark h hk (by omega), rs_b1_some]
      have e2 : decide (i + 1 ≤ y) = true := by simp; omega
      rw [e2]
      cases sd_dark D k (y - 1 - i) <;> rfl
    · have hz : nI y - nI i < (1 : Int32) := by
        rw [pn_lt, pk_sub_toInt (by omega) (by omega)]
        have : (1 : Int32).toInt = 1 := rfl
        omega
      rw [if_pos hz]
      have e2 : decide (i + 1 ≤ y) = false := by simp; omega
      rw [e2]
      rfl) (by
    unfold f_X4_nightAhead_L2
    rw [if_pos (show (9 : Int32) ≤ nI 9 from nI_le (a := 9) (Nat.le_refl _) (by omega))])
  rw [e]
  rfl
theorem s_darkAhead {D : Nat → Nat} (h : sd_ok D) {k y N : Nat} (hk : k ≤ 9) (hy : y < 2 ^ 24) (hN : 10 < N) : f_X11_darkAhead N (nI k) (nI y) (nI (D 0)) (nI (D 1)) (nI (D 2)) (nI (D 3)) (nI (D 4)) (nI (D 5)) (nI (D 6)) = some (nI (sd_na D k y)) := by
  unfold f_X11_darkAhead
  have e : rs_l1 (f_X11_darkAhead_L2 (nI y) (nI k) (nI (D 0)) (nI (D 1)) (nI (D 2)) (nI (D 3)) (nI (D 4)) (nI (D 5)) (nI (D 6))) N 0 = some (nI (sd_na D k y)) := lp_while (m := 9) (by omega) (fun i hi => by
    unfold f_X11_darkAhead_L2 sd_st
    rw [if_neg (show ¬ (9 : Int32) ≤ nI i from nI_ge (b := 9) (by omega) (by omega)), nI_1]
    by_cases c : i + 1 ≤ y
    · rw [show nI y - (1 : Int32) = nI (y - 1) from pk_sub (b := 1) (by omega), pk_sub (a := y - 1) (b := i) (by omega), if_neg (nI_pos (by omega)), s_isLit h hk (by omega), rs_b1_some]
      have e2 : decide (i + 1 ≤ y) = true := by simp; omega
      rw [e2]
      cases sd_dark D k (y - 1 - i) <;> rfl
    · have hz : nI y - (1 : Int32) - nI i < 0 := by
        rw [show nI y - (1 : Int32) - nI i = nI y - nI (1 + i) from by rw [← nI_add, show (1 : Int32) = nI 1 from rfl, Int32.sub_sub]]
        exact pk_sneg (by omega) (by omega)
      rw [if_pos hz]
      have e2 : decide (i + 1 ≤ y) = false := by simp; omega
      rw [e2]
      rfl) (by
    unfold f_X11_darkAhead_L2
    rw [if_pos (show (9 : Int32) ≤ nI 9 from nI_le (a := 9) (Nat.le_refl _) (by omega))])
  rw [e]
  rfl
theorem s_nightsPaid {D : Nat → Nat} (h : sd_ok D) {k t m N : Nat} (hk : k ≤ 9) (ht : t + m < 2 ^ 24) (hN : m + 10 < N) : f_X4_nightsPaid N (nI k) (nI t) (nI m) (nI (D 0)) (nI (D 1)) (nI (D 2)) (nI (D 3)) (nI (D 4)) (nI (D 5)) (nI (D 6)) = some (nI (sm (fun i => sd_g D k (t + i)) m)) := by
  unfold f_X4_nightsPaid
  rw [lp_sum (s := t) (m := m) (g := fun i => sd_g D k (t + i)) (by omega) (fun i c hi => by
    unfold f_X4_nightsPaid_L6 sd_g
    rw [nI_add, if_neg (nI_ge (by omega) (by omega)), s_hasSlit h hk (by omega), rs_b1_some, s_covers h hk (by omega), s_nightAhead h hk (by omega) (by omega)]
    simp only [rs_b1_some, b2_0, rs_lt_eq]
    rw [nI_add, nI_1]
    cases sd_slit D k (t + i) <;> cases sd_cov D k (t + i) <;> rfl) (fun c => by
    unfold f_X4_nightsPaid_L6
    rw [nI_add, if_pos (nI_le (Nat.le_refl _) (by omega))])]
  rfl
theorem s_rentM {D : Nat → Nat} (h : sd_ok D) {k t m v N : Nat} (hk : k ≤ 9) (ht : t + m < 2 ^ 24) (hN : m + 10 < N) : rs_l2 (f_X11_rent_L51 N (nI t) (nI m) (nI k) (nI (D 0)) (nI (D 1)) (nI (D 2)) (nI (D 3)) (nI (D 4)) (nI (D 5)) (nI (D 6)) (nI v)) N 0 (nI t) = some (nI (v * sm (fun i => sd_g D k (t + i)) m)) := by
  rw [lp_sum (s := t) (m := m) (g := fun i => v * sd_g D k (t + i)) (by omega) (fun i c hi => by
    unfold f_X11_rent_L51 sd_g
    rw [nI_add, if_neg (nI_ge (by omega) (by omega)), s_isCovered h hk (by omega), rs_b1_some, s_isSlit h hk (by omega), s_darkAhead h hk (by omega) (by omega)]
    simp only [rs_b1_some, b2_0]
    rw [pk_mul, nI_1]
    cases sd_cov D k (t + i)
    · show some (Sum.inl (nI c + nI 0, _)) = _
      rw [nI_add]; rfl
    · cases sd_slit D k (t + i)
      · show some (Sum.inl (nI c + nI 0, _)) = _
        rw [nI_add]; rfl
      · show some (Sum.inl (nI c + nI (v * sd_na D k (t + i)), _)) = _
        rw [nI_add]; rfl) (fun c => by
    unfold f_X11_rent_L51
    rw [nI_add, if_pos (nI_le (Nat.le_refl _) (by omega))]), sm_mul]
theorem s_rentYears {D : Nat → Nat} (h : sd_ok D) {k t m N : Nat} (hk : k ≤ 9) (ht : t ≤ 99999) (hm : m ≤ 9999) (hN : 20000 < N) : f_X4_rentYears N (nI k) (nI t) (nI m) (nI (D 0)) (nI (D 1)) (nI (D 2)) (nI (D 3)) (nI (D 4)) (nI (D 5)) (nI (D 6)) = some (nI (sm (fun i => sd_g D k (t + i)) m)) := by
  obtain ⟨q1, q2⟩ := sd_P_b h
  unfold f_X4_rentYears
  by_cases h0 : D 4 = 0
  · rw [if_pos (show nI (D 4) = 0 by rw [h0]; rfl)]
    have : sm (fun i => sd_g D k (t + i)) m = 0 := by
      have e : sm (fun i => sd_g D k (t + i)) m = sm (fun _ => 0) m := sm_cong m (fun i _ => by
        unfold sd_g sd_slit
        rw [h0]
        simp)
      rw [e]
      clear e hm
      induction m with
      | zero => rfl
      | succ m ih => show sm (fun _ => 0) m + 0 = 0; rw [ih]
    rw [this]
    rfl
  · have hM : 2 ≤ D 4 ∧ D 4 ≤ 20 := by
      obtain ⟨_, _, _, _, _, _, _, h7, _, _⟩ := h
      omega
    rw [if_neg (nI_ne0 (by omega) (by omega))]
    simp only [rs_lt_eq]
    obtain ⟨ea, hea⟩ : ∃ ea, ea = if t < 9 then (if 9 - t < m then 9 - t else m) else 0 := ⟨_, rfl⟩
    have e1 : (if 0 < (if ((9 : Int32) - nI t) < nI m then ((9 : Int32) - nI t) else nI m) then (if ((9 : Int32) - nI t) < nI m then ((9 : Int32) - nI t) else nI m) else 0) = nI ea := by
      by_cases c : t < 9
      · rw [if_pos c] at hea
        rw [show (9 : Int32) - nI t = nI (9 - t) from pk_sub (a := 9) (by omega)]
        have e2 : (if nI (9 - t) < nI m then nI (9 - t) else nI m) = nI ea := by
          rw [hea]
          by_cases c2 : 9 - t < m
          · rw [if_pos (nI_lt c2 (by omega)), if_pos c2]
          · rw [if_neg (nI_nlt (by omega) (by omega)), if_neg c2]
        rw [e2]
        by_cases c3 : 0 < ea
        · rw [if_pos (show (0 : Int32) < nI ea from nI_lt (a := 0) c3 (by rw [hea]; split <;> omega))]
        · have : ea = 0 := by omega
          rw [this]
          rfl
      · rw [if_neg c] at hea
        have hz : ((9 : Int32) - nI t).toInt = 9 - (t : Int) := pk_sub_toInt (a := 9) (b := t) (by omega) (by omega)
        have hn : ¬ (0 : Int32) < (if ((9 : Int32) - nI t) < nI m then ((9 : Int32) - nI t) else nI m) := by
          by_cases c2 : (9 : Int32) - nI t < nI m
          · rw [if_pos c2, pn_lt, hz]
            have : (0 : Int32).toInt = 0 := rfl
            omega
          · rw [if_neg c2]
            have c3 : ¬ ((9 : Int32) - nI t).toInt < (nI m).toInt := fun z => c2 ((pn_lt _ _).mpr z)
            rw [hz, nI_toInt (by omega)] at c3
            rw [pn_lt, nI_toInt (by omega)]
            have : (0 : Int32).toInt = 0 := rfl
            omega
        rw [if_neg hn, hea]
        rfl
    rw [e1]
    have hem : ea ≤ m := by
      rw [hea]
      split
      · split <;> omega
      · omega
    have hst : m - ea = 0 ∨ 9 ≤ t + ea := by
      rw [hea]
      split
      · split <;> omega
      · omega
    rw [pk_sub hem, nI_add, s_period h (by omega), rs_b1_some, s_nightsPaid h hk (by omega) (by omega), rs_b1_some, s_leftOver (by omega) (by omega) (by omega), rs_b1_some]
    have hlt : (m - ea) % sd_P D < sd_P D := Nat.mod_lt _ (by omega)
    rw [s_nightsPaid h hk (by omega) (by omega), rs_b1_some, nI_add]
    have hsplit : sm (fun i => sd_g D k (t + i)) m = sm (fun i => sd_g D k (t + i)) ea + sm (fun i => sd_g D k (t + ea + i)) (m - ea) := by
      have := sm_add (fun i => sd_g D k (t + i)) ea (m - ea)
      rw [show ea + (m - ea) = m by omega] at this
      rw [this]
      congr 1
      exact sm_cong _ (fun i _ => by rw [Nat.add_assoc])
    by_cases c : sd_P D ≤ m - ea
    · rw [if_pos (nI_le c (by omega)), s_cut (by omega) (by omega) (by omega), rs_b1_some, s_nightsPaid h hk (by omega) (by omega), rs_b1_some, pk_mul, nI_add, hsplit]
      have h9 : 9 ≤ t + ea := by omega
      rw [sm_divmod (g := fun i => sd_g D k (t + ea + i)) (P := sd_P D) (fun i => by rw [← Nat.add_assoc]; exact sd_g_P h k _ (by omega)) (m - ea)]
      rw [Nat.add_assoc]
    · rw [if_neg (nI_ge (by omega) (by omega)), hsplit, Nat.mod_eq_of_lt (by omega)]
theorem e_rent {D : Nat → Nat} (h : sd_ok D) {N : Nat} (hN : 20000 < N) (p1 p2 p3 p4 : Int32) : ∃ r, f_X10_rent N p1 p2 p3 p4 (nI (D 0)) (nI (D 1)) (nI (D 2)) (nI (D 3)) (nI (D 4)) (nI (D 5)) (nI (D 6)) = some r ∧ f_X11_rent N p1 p2 p3 p4 (nI (D 0)) (nI (D 1)) (nI (D 2)) (nI (D 3)) (nI (D 4)) (nI (D 5)) (nI (D 6)) = some r := by
  unfold f_X10_rent f_X11_rent
  have hb := h.2.1
  rw [s_hasLand p1 h.1 h.2.1, s_isLand p1 h.1 h.2.1, s_isYear, s_isYearM]
  simp only [s_within, s_in, rs_b1_some, b2_0]
  cases h1 : isl p1 (D 0) with
  | false => exact ⟨-1, rfl, rfl⟩
  | true =>
    cases h2 : isy p2 with
    | false => exact ⟨-2, rfl, rfl⟩
    | true =>
      cases h3 : ins p3 0 9999 with
      | false =>
        have e1 : (decide ((0 : Int32).toInt ≤ p3.toInt) && decide (p3.toInt ≤ (9999 : Int32).toInt)) = false := h3
        have e2 : (decide ((0 : Int64).toInt ≤ p3.toInt) && decide (p3.toInt ≤ (9999 : Int64).toInt)) = false := h3
        rw [e1, e2]
        exact ⟨-2, rfl, rfl⟩
      | true =>
        have e1 : (decide ((0 : Int32).toInt ≤ p3.toInt) && decide (p3.toInt ≤ (9999 : Int32).toInt)) = true := h3
        have e2 : (decide ((0 : Int64).toInt ≤ p3.toInt) && decide (p3.toInt ≤ (9999 : Int64).toInt)) = true := h3
        rw [e1, e2]
        cases h4 : ins p4 0 99 with
        | false =>
          have e1 : (decide ((0 : Int32).toInt ≤ p4.toInt) && decide (p4.toInt ≤ (99 : Int32).toInt)) = false := h4
          have e2 : (decide ((0 : Int64).toInt ≤ p4.toInt) && decide (p4.toInt ≤ (99 : Int64).toInt)) = false := h4
          rw [e1, e2]
          exact ⟨-2, rfl, rfl⟩
        | true =>
          have e1 : (decide ((0 : Int32).toInt ≤ p4.toInt) && decide (p4.toInt ≤ (99 : Int32).toInt)) = true := h4
          have e2 : (decide ((0 : Int64).toInt ≤ p4.toInt) && decide (p4.toInt ≤ (99 : Int64).toInt)) = true := h4
          rw [e1, e2]
          obtain ⟨k, hk, rfl⟩ := isl_of h1
          obtain ⟨t, ht, rfl⟩ := isy_of h2
          obtain ⟨m, hm, rfl⟩ := ins_of (b := 9999) h3
          obtain ⟨v, hv, rfl⟩ := ins_of (b := 99) h4
          simp only [itf]
          rw [s_rentYears h (by omega) ht hm hN, rs_b1_some, s_rentM h (by omega) (by omega) (by omega), rs_b1_some, pk_mul]
          exact ⟨_, rfl, rfl⟩
