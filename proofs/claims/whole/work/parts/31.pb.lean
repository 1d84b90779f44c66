theorem e_lit {D : Nat → Nat} (h : sd_ok D) (p1 p2 : Int32) : ∃ r, f_X10_lit p1 p2 (nI (D 0)) (nI (D 1)) (nI (D 2)) (nI (D 3)) (nI (D 4)) (nI (D 5)) (nI (D 6)) = some r ∧ f_X11_lit p1 p2 (nI (D 0)) (nI (D 1)) (nI (D 2)) (nI (D 3)) (nI (D 4)) (nI (D 5)) (nI (D 6)) = some r := by
  unfold f_X10_lit f_X11_lit
  rw [s_hasLand p1 h.1 h.2.1, s_isLand p1 h.1 h.2.1, s_isYear, s_isYearM]
  simp only [rs_b1_some, b2_0]
  cases h1 : isl p1 (D 0) with
  | false => exact ⟨-1, rfl, rfl⟩
  | true =>
    cases h2 : isy p2 with
    | false => exact ⟨-2, rfl, rfl⟩
    | true =>
      obtain ⟨k, hk, rfl⟩ := isl_of h1
      obtain ⟨t, ht, rfl⟩ := isy_of h2
      have hb := h.2.1
      rw [s_isDark h (by omega) (by omega), s_isLit h (by omega) (by omega)]
      cases sd_dark D k t <;> exact ⟨_, rfl, rfl⟩
theorem e_covered {D : Nat → Nat} (h : sd_ok D) (p1 : Int32) : ∃ r, f_X10_covered p1 (nI (D 0)) (nI (D 1)) (nI (D 2)) (nI (D 3)) = some r ∧ f_X11_covered p1 (nI (D 0)) (nI (D 1)) (nI (D 2)) (nI (D 3)) = some r := by
  unfold f_X10_covered f_X11_covered
  rw [s_isYear, s_isYearM]
  simp only [rs_b1_some, b2_0]
  cases h2 : isy p1 with
  | false => exact ⟨-2, rfl, rfl⟩
  | true =>
    obtain ⟨t, ht, rfl⟩ := isy_of h2
    rw [s_firstAt h (by omega), s_firstCovered h (by omega)]
    exact ⟨_, rfl, rfl⟩
-- stores
def XS (V : Nat → Nat → Nat) (f : Nat → Int32) : Prop := ∀ k, k < 9 → ∀ j, j < 4 → f (4 * k + j) = nI (V j k)
def MS (V : Nat → Nat → Nat) (f : Nat → Int32) : Prop := ∀ k, k < 9 → ∀ j, j < 4 → f (9 * j + k) = nI (V j k)
def vok (V : Nat → Nat → Nat) : Prop := ∀ k, k < 9 → V 0 k ≤ 20 ∧ V 1 k ≤ 20 ∧ V 3 k ≤ 99 ∧ V 2 k ≤ V 3 k
def vup (V : Nat → Nat → Nat) (j k v : Nat) : Nat → Nat → Nat := fun a b => if a = j ∧ b = k then v else V a b
theorem vup_s (V : Nat → Nat → Nat) (j k v : Nat) : vup V j k v j k = v := by simp [vup]
theorem vup_n (V : Nat → Nat → Nat) {j k v a b : Nat} (h : ¬ (a = j ∧ b = k)) : vup V j k v a b = V a b := by simp only [vup]; rw [if_neg h]
theorem XS_up {V : Nat → Nat → Nat} {f : Nat → Int32} (h : XS V f) {j k v : Nat} (hj : j < 4) (hk : k < 9) : XS (vup V j k v) (upd f (4 * k + j) (nI v)) := by
  intro a ha b hb
  by_cases hc : b = j ∧ a = k
  · obtain ⟨rfl, rfl⟩ := hc
    rw [pk_us, vup_s]
  · rw [pk_un (by omega), vup_n V hc]
    exact h a ha b hb
theorem MS_up {V : Nat → Nat → Nat} {f : Nat → Int32} (h : MS V f) {j k v : Nat} (hj : j < 4) (hk : k < 9) : MS (vup V j k v) (upd f (9 * j + k) (nI v)) := by
  intro a ha b hb
  by_cases hc : b = j ∧ a = k
  · obtain ⟨rfl, rfl⟩ := hc
    rw [pk_us, vup_s]
  · rw [pk_un (by omega), vup_n V hc]
    exact h a ha b hb
theorem s_ix {k j : Nat} {x : Int32} (hx : x = nI j) : (4 : Int32) * nI k + x = nI (4 * k + j) := by
  rw [hx, show (4 : Int32) = nI 4 from rfl, pk_mul, nI_add]
theorem s_of {V : Nat → Nat → Nat} {f : Nat → Int32} (h : XS V f) {k j : Nat} (hk : k < 9) (hj : j < 4) {x : Int32} (hx : x = nI j) : f_X6_of (nI k) x f = some (nI (V j k)) := by
  unfold f_X6_of
  simp only [rs_lt_eq]
  rw [s_ix hx, if_neg (nI_pos (by omega)), if_neg (show ¬ (36 : Int32) ≤ nI (4 * k + j) from nI_ge (b := 36) (by omega) (by omega)), if_neg (nI_in (by omega) (by omega)), nI_clamp (by omega), h k hk j hj]
theorem s_put (f : Nat → Int32) {k j : Nat} (hk : k < 9) (hj : j < 4) {x : Int32} (hx : x = nI j) (v : Int32) : f_X6_put (nI k) x v f = some (upd f (4 * k + j) v) := by
  unfold f_X6_put
  simp only [rs_lt_eq]
  rw [s_ix hx, if_neg (nI_pos (by omega)), if_neg (show ¬ (36 : Int32) ≤ nI (4 * k + j) from nI_ge (b := 36) (by omega) (by omega)), if_neg (nI_in (by omega) (by omega)), nI_clamp (by omega)]
theorem s_at {k j : Nat} {x : Int32} (hx : x = nI j) : f_X11_at x (nI k) = some (nI (9 * j + k)) := by
  unfold f_X11_at
  rw [hx, show (9 : Int32) = nI 9 from rfl, pk_mul, nI_add]
theorem s_of0 {V : Nat → Nat → Nat} {f : Nat → Int32} (h : XS V f) {k : Nat} (hk : k < 9) : f_X6_of (nI k) 0 f = some (nI (V 0 k)) := s_of h hk (by omega) rfl
theorem s_put0 (f : Nat → Int32) {k : Nat} (hk : k < 9) (v : Int32) : f_X6_put (nI k) 0 v f = some (upd f (4 * k + 0) v) := s_put (j := 0) f hk (by omega) rfl v
theorem s_at0 (k : Nat) : f_X11_at 0 (nI k) = some (nI (9 * 0 + k)) := s_at rfl
theorem s_of1 {V : Nat → Nat → Nat} {f : Nat → Int32} (h : XS V f) {k : Nat} (hk : k < 9) : f_X6_of (nI k) 1 f = some (nI (V 1 k)) := s_of h hk (by omega) rfl
theorem s_put1 (f : Nat → Int32) {k : Nat} (hk : k < 9) (v : Int32) : f_X6_put (nI k) 1 v f = some (upd f (4 * k + 1) v) := s_put (j := 1) f hk (by omega) rfl v
theorem s_at1 (k : Nat) : f_X11_at 1 (nI k) = some (nI (9 * 1 + k)) := s_at rfl
theorem s_of2 {V : Nat → Nat → Nat} {f : Nat → Int32} (h : XS V f) {k : Nat} (hk : k < 9) : f_X6_of (nI k) 2 f = some (nI (V 2 k)) := s_of h hk (by omega) rfl
theorem s_put2 (f : Nat → Int32) {k : Nat} (hk : k < 9) (v : Int32) : f_X6_put (nI k) 2 v f = some (upd f (4 * k + 2) v) := s_put (j := 2) f hk (by omega) rfl v
theorem s_at2 (k : Nat) : f_X11_at 2 (nI k) = some (nI (9 * 2 + k)) := s_at rfl
theorem s_of3 {V : Nat → Nat → Nat} {f : Nat → Int32} (h : XS V f) {k : Nat} (hk : k < 9) : f_X6_of (nI k) 3 f = some (nI (V 3 k)) := s_of h hk (by omega) rfl
theorem s_put3 (f : Nat → Int32) {k : Nat} (hk : k < 9) (v : Int32) : f_X6_put (nI k) 3 v f = some (upd f (4 * k + 3) v) := s_put (j := 3) f hk (by omega) rfl v
theorem s_at3 (k : Nat) : f_X11_at 3 (nI k) = some (nI (9 * 3 + k)) := s_at rfl
-- set
def Dup (D : Nat → Nat) (j v : Nat) : Nat → Nat := fun i => if i = j then v else D i
theorem s_canSet (p1 p2 : Int32) : f_X10_mayRule p1 p2 = f_X11_canSet p1 p2 := by
  unfold f_X10_mayRule f_X11_canSet
  simp only [s_within, s_in]
  rfl
theorem s_canSet_some (p1 p2 : Int32) : ∃ b : Bool, f_X11_canSet p1 p2 = some (b2 b) ∧ (b = true → (p1 = 0 ∧ ∃ v, 1 ≤ v ∧ v ≤ 9 ∧ p2 = nI v) ∨ (p1 = 1 ∧ ∃ v, v ≤ 99 ∧ p2 = nI v) ∨ (p1 = 2 ∧ ∃ v, (v = 0 ∨ (2 ≤ v ∧ v ≤ 20)) ∧ p2 = nI v) ∨ (p1 = 3 ∧ ∃ v, v ≤ 19 ∧ p2 = nI v) ∨ (p1 = 4 ∧ ∃ v, v ≤ 19 ∧ p2 = nI v)) := by
  unfold f_X11_canSet
  simp only [s_in, rs_b1_some, b2_nar, if_true]
  by_cases c0 : p1 = 0
  · rw [if_pos c0]
    exact ⟨_, rfl, fun hb => Or.inl ⟨c0, ins_of1 (a := 1) (b := 9) hb⟩⟩
  rw [if_neg c0]
  by_cases c1 : p1 = 1
  · rw [if_pos c1]
    exact ⟨_, rfl, fun hb => Or.inr (Or.inl ⟨c1, ins_of (b := 99) hb⟩)⟩
  rw [if_neg c1]
  by_cases c2 : p1 = 2
  · rw [if_pos c2]
    by_cases c : p2 = 0
    · rw [if_pos c]
      exact ⟨true, rfl, fun _ => Or.inr (Or.inr (Or.inl ⟨c2, 0, Or.inl rfl, c⟩))⟩
    · rw [if_neg c]
      cases hb : (decide ((2 : Int64).toInt ≤ p2.toInt) && decide (p2.toInt ≤ (20 : Int64).toInt)) with
      | false => exact ⟨false, rfl, fun z => by cases z⟩
      | true =>
        obtain ⟨v, h1, h2, h3⟩ := ins_of1 (a := 2) (b := 20) hb
        exact ⟨true, rfl, fun _ => Or.inr (Or.inr (Or.inl ⟨c2, v, Or.inr ⟨h1, h2⟩, h3⟩))⟩
  rw [if_neg c2]
  by_cases c3 : p1 = 3
  · rw [if_pos c3]
    exact ⟨_, rfl, fun hb => Or.inr (Or.inr (Or.inr (Or.inl ⟨c3, ins_of (b := 19) hb⟩)))⟩
  rw [if_neg c3]
  by_cases c4 : p1 = 4
  · rw [if_pos c4]
    exact ⟨_, rfl, fun hb => Or.inr (Or.inr (Or.inr (Or.inr ⟨c4, ins_of (b := 19) hb⟩)))⟩
  rw [if_neg c4]
  exact ⟨false, rfl, fun z => by cases z⟩
theorem e_set {D : Nat → Nat} (h : sd_ok D) (p1 p2 : Int32) : ∃ (r : Int32) (E : Nat → Nat), f_X10_set p1 p2 (nI (D 2)) (nI (D 3)) (nI (D 4)) (nI (D 5)) (nI (D 6)) = some (r, nI (E 2), nI (E 3), nI (E 4), nI (E 5), nI (E 6)) ∧ f_X11_set p1 p2 (nI (D 2)) (nI (D 3)) (nI (D 4)) (nI (D 5)) (nI (D 6)) = some (r, nI (E 2), nI (E 3), nI (E 4), nI (E 5), nI (E 6)) ∧ sd_ok E ∧ E 0 = D 0 ∧ E 1 = D 1 := by
  unfold f_X10_set f_X11_set
  rw [s_canSet]
  obtain ⟨b, hb, hc⟩ := s_canSet_some p1 p2
  rw [hb]
  simp only [rs_b1_some, b2_0]
  cases b with
  | false => exact ⟨-2, D, rfl, rfl, h, rfl, rfl⟩
  | true =>
    have h' := h
    obtain ⟨h0, h1, h2, h3, h4, h5, h6, h7, h8, h9⟩ := h
    rcases hc rfl with ⟨rfl, v, g1, g2, rfl⟩ | ⟨rfl, v, g1, rfl⟩ | ⟨rfl, v, g1, rfl⟩ | ⟨rfl, v, g1, rfl⟩ | ⟨rfl, v, g1, rfl⟩
    · exact ⟨nI (D 2), Dup D 2 v, rfl, rfl, ⟨h0, h1, h2, h3, g1, g2, h6, h7, h8, h9⟩, rfl, rfl⟩
    · exact ⟨nI (D 3), Dup D 3 v, rfl, rfl, ⟨h0, h1, h2, h3, h4, h5, g1, h7, h8, h9⟩, rfl, rfl⟩
    · exact ⟨nI (D 4), Dup D 4 v, rfl, rfl, ⟨h0, h1, h2, h3, h4, h5, h6, g1, h8, h9⟩, rfl, rfl⟩
    · exact ⟨nI (D 5), Dup D 5 v, rfl, rfl, ⟨h0, h1, h2, h3, h4, h5, h6, h7, g1, h9⟩, rfl, rfl⟩
    · exact ⟨nI (D 6), Dup D 6 v, rfl, rfl, ⟨h0, h1, h2, h3, h4, h5, h6, h7, h8, g1⟩, rfl, rfl⟩
