def b2 (b : Bool) : Int32 := if b then 1 else 0
theorem b2_0 (b : Bool) : (b2 b = 0) ↔ b = false := by cases b <;> decide
theorem b2_nar (b : Bool) : vp_nar .boolean (b2 b) = b2 b := by cases b <;> decide
theorem b2_t : b2 true = 1 := rfl
theorem b2_f : b2 false = 0 := rfl
theorem rs_loop_inv {S R : Type} {body : S → Option (S ⊕ R)} (I : Nat → S → Prop) (post : R → Prop) (m : Nat)
    (step : ∀ i s, i ≤ m → I i s → (∃ s2, body s = some (.inl s2) ∧ I (i + 1) s2 ∧ i < m) ∨ (∃ r, body s = some (.inr r) ∧ post r)) :
    ∀ (N i : Nat) (s : S), i ≤ m → m - i < N → I i s → ∃ r, rs_loop body N s = some r ∧ post r := by
  intro N
  induction N with
  | zero => intro i s h1 h2; omega
  | succ N ih =>
    intro i s h1 h2 hI
    rcases step i s h1 hI with ⟨s2, hb, h3, h4⟩ | ⟨r, hb, h3⟩
    · obtain ⟨r, h5, h6⟩ := ih (i + 1) s2 (by omega) (by omega) h3
      refine ⟨r, ?_, h6⟩
      unfold rs_loop
      rw [hb]
      exact h5
    · refine ⟨r, ?_, h3⟩
      unfold rs_loop
      rw [hb]
      rfl
theorem rs_b1_some {α ζ : Type} (a : α) (k : α → Option ζ) : rs_b1 (some a) k = k a := rfl
theorem rs_b2_some {α β ζ : Type} (a : α) (b : β) (k : α → β → Option ζ) : rs_b2 (some (a, b)) k = k a b := rfl
theorem rs_b3_some {α β γ ζ : Type} (a : α) (b : β) (c : γ) (k : α → β → γ → Option ζ) : rs_b3 (some (a, b, c)) k = k a b c := rfl
theorem rs_b4_some {α β γ δ ζ : Type} (a : α) (b : β) (c : γ) (d : δ) (k : α → β → γ → δ → Option ζ) : rs_b4 (some (a, b, c, d)) k = k a b c d := rfl
theorem rs_b5_some {α β γ δ ε ζ : Type} (a : α) (b : β) (c : γ) (d : δ) (e : ε) (k : α → β → γ → δ → ε → Option ζ) : rs_b5 (some (a, b, c, d, e)) k = k a b c d e := rfl
theorem rs_lt_eq {α β : Type} (v : α) (k : α → β) : rs_lt v k = k v := rfl
theorem rs_m1_inl {α ζ : Type} (a : α) (k : α → Option ζ) : rs_m1 (some (.inl a)) k = k a := rfl
theorem rs_m1_inr {α ζ : Type} (z : ζ) (k : α → Option ζ) : rs_m1 (some (.inr z)) k = some z := rfl
theorem rs_m0_inl {ζ : Type} (k : Option ζ) : rs_m0 (some (.inl ())) k = k := rfl
theorem rs_m0_inr {ζ : Type} (z : ζ) (k : Option ζ) : rs_m0 (some (.inr z)) k = some z := rfl
-- numbers
theorem pn_le (x y : Int32) : x ≤ y ↔ x.toInt ≤ y.toInt := Int32.le_iff_toInt_le
theorem pn_lt (x y : Int32) : x < y ↔ x.toInt < y.toInt := Int32.lt_iff_toInt_lt
theorem pn_of {x : Int32} {n : Nat} (h : 0 ≤ x.toInt) (h2 : x.toInt ≤ n) : ∃ j : Nat, j ≤ n ∧ x = nI j := by
  have h3 : ¬ x < 0 := by rw [pn_lt]; simp; exact h
  obtain ⟨j, hj, rfl⟩ := nI_of h3
  rw [nI_toInt hj] at h2
  exact ⟨j, by omega, rfl⟩
theorem nI_to {n : Nat} (h : n < 2 ^ 31) : (nI n).toNatClampNeg = n := nI_clamp h
def isl (x : Int32) (n : Nat) : Bool := decide (0 ≤ x.toInt) && decide (x.toInt < n)
theorem isl_of {x : Int32} {n : Nat} (h : isl x n = true) : ∃ j : Nat, j < n ∧ x = nI j := by
  unfold isl at h
  simp at h
  have h3 : ¬ x < 0 := by rw [pn_lt]; simp; exact h.1
  obtain ⟨j, hj, rfl⟩ := nI_of h3
  have h2 := h.2
  rw [nI_toInt hj] at h2
  exact ⟨j, by omega, rfl⟩
theorem isl_nI {j n : Nat} (hj : j < 2 ^ 31) : isl (nI j) n = decide (j < n) := by
  unfold isl
  rw [nI_toInt hj]
  by_cases h : j < n <;> simp [h] <;> omega
theorem s_within (x a b : Int32) : f_X10_within x a b = some (b2 (decide (a.toInt ≤ x.toInt) && decide (x.toInt ≤ b.toInt))) := by
  unfold f_X10_within
  simp only [pn_lt, pn_le]
  by_cases h1 : x.toInt < a.toInt
  · rw [if_pos h1]
    have : ¬ a.toInt ≤ x.toInt := by omega
    simp [this, b2_f]
  · rw [if_neg h1]
    have h1' : a.toInt ≤ x.toInt := by omega
    by_cases h2 : b.toInt < x.toInt
    · have : ¬ x.toInt ≤ b.toInt := by omega
      have h3 : ¬ x.toInt ≤ b.toInt := this
      simp [this, h1', b2_f]
    · have : x.toInt ≤ b.toInt := by omega
      simp [this, h1', b2_t]
theorem s_in (x : Int32) (a b : Int64) : f_X11_in x.toInt64 a b = some (b2 (decide (a.toInt ≤ x.toInt) && decide (x.toInt ≤ b.toInt))) := by
  unfold f_X11_in
  simp only [lg_cmp_lt, lg_cmp_gt, Int64.lt_iff_toInt_lt, Int32.toInt_toInt64]
  by_cases h1 : x.toInt < a.toInt
  · rw [if_pos h1]
    have : ¬ a.toInt ≤ x.toInt := by omega
    simp [this, b2_f]
  · rw [if_neg h1]
    have h1' : a.toInt ≤ x.toInt := by omega
    by_cases h2 : b.toInt < x.toInt
    · have : ¬ x.toInt ≤ b.toInt := by omega
      simp [this, h1', h2, b2_f]
    · have : x.toInt ≤ b.toInt := by omega
      simp [this, h1', h2, b2_t]
theorem s_hasLand (x : Int32) {n : Nat} (hn : 2 ≤ n) (hn2 : n ≤ 9) : f_X10_hasLand x (nI n) = some (b2 (isl x n)) := by
  unfold f_X10_hasLand
  have e : nI n - 1 = nI (n - 1) := pk_sub (b := 1) (by omega)
  rw [e, s_within, rs_b1_some, if_pos (b2_nar _)]
  unfold isl
  have e1 : (0 : Int32).toInt = 0 := rfl
  rw [nI_toInt (by omega), e1]
  by_cases h : x.toInt < n
  · have : x.toInt ≤ ((n - 1 : Nat) : Int) := by omega
    simp [h, this]
  · have : ¬ x.toInt ≤ ((n - 1 : Nat) : Int) := by omega
    simp [h, this]
theorem s_isLand (x : Int32) {n : Nat} (hn : 2 ≤ n) (hn2 : n ≤ 9) : f_X11_isLand x (nI n) = some (b2 (isl x n)) := by
  unfold f_X11_isLand
  have e : nI n - 1 = nI (n - 1) := pk_sub (b := 1) (by omega)
  rw [e, s_in, rs_b1_some, if_pos (b2_nar _)]
  unfold isl
  have e1 : (0 : Int64).toInt = 0 := rfl
  rw [Int32.toInt_toInt64, nI_toInt (by omega), e1]
  by_cases h : x.toInt < n
  · have : x.toInt ≤ ((n - 1 : Nat) : Int) := by omega
    simp [h, this]
  · have : ¬ x.toInt ≤ ((n - 1 : Nat) : Int) := by omega
    simp [h, this]
def isy (x : Int32) : Bool := decide (0 ≤ x.toInt) && decide (x.toInt ≤ 99999)
theorem isy_of {x : Int32} (h : isy x = true) : ∃ j : Nat, j ≤ 99999 ∧ x = nI j := by
  unfold isy at h
  simp at h
  exact pn_of h.1 (n := 99999) h.2
theorem s_isYear (x : Int32) : f_X10_isYear x = some (b2 (isy x)) := by
  unfold f_X10_isYear
  rw [s_within, rs_b1_some, if_pos (b2_nar _)]
  rfl
theorem s_isYearM (x : Int32) : f_X11_isYear x = some (b2 (isy x)) := by
  unfold f_X11_isYear
  rw [s_in, rs_b1_some, if_pos (b2_nar _)]
  rfl
def ins (x : Int32) (a b : Int) : Bool := decide (a ≤ x.toInt) && decide (x.toInt ≤ b)
theorem ins_of {x : Int32} {b : Nat} (h : ins x 0 b = true) : ∃ j : Nat, j ≤ b ∧ x = nI j := by
  unfold ins at h
  simp at h
  exact pn_of h.1 h.2
theorem ins_of1 {x : Int32} {a b : Nat} (h : ins x a b = true) : ∃ j : Nat, a ≤ j ∧ j ≤ b ∧ x = nI j := by
  unfold ins at h
  simp at h
  obtain ⟨j, h1, rfl⟩ := pn_of (by omega) h.2
  by_cases hj : j < 2 ^ 31
  · rw [nI_toInt hj] at h
    exact ⟨j, by omega, h1, rfl⟩
  · have h2 : (nI j).toInt < 2 ^ 31 := Int32.toInt_lt _
    obtain ⟨j2, hj2, e⟩ := nI_of (x := nI j) (by rw [pn_lt]; have : (0:Int32).toInt = 0 := rfl; omega)
    rw [e] at h ⊢
    rw [nI_toInt hj2] at h
    exact ⟨j2, by omega, by omega, rfl⟩
-- the shadow: D 0 lands, 1 wide, 2 pace, 3 age, 4 M, 5 A, 6 B
def sd_ok (D : Nat → Nat) : Prop := 2 ≤ D 0 ∧ D 0 ≤ 9 ∧ 1 ≤ D 1 ∧ D 1 < D 0 ∧ 1 ≤ D 2 ∧ D 2 ≤ 9 ∧ D 3 ≤ 99 ∧ (D 4 = 0 ∨ (2 ≤ D 4 ∧ D 4 ≤ 20)) ∧ D 5 ≤ 19 ∧ D 6 ≤ 19
def sd_r (D : Nat → Nat) (t : Nat) : Nat := (t + D 3) / D 2 % (2 * (D 0 - D 1))
def sd_first (D : Nat → Nat) (t : Nat) : Nat := if sd_r D t ≤ D 0 - D 1 then sd_r D t else 2 * (D 0 - D 1) - sd_r D t
def sd_cov (D : Nat → Nat) (k t : Nat) : Bool := decide (sd_first D t ≤ k) && decide (k < sd_first D t + D 1)
def sd_slit (D : Nat → Nat) (k t : Nat) : Bool := decide (D 4 ≠ 0) && decide ((t * D 5 + k * D 6) % D 4 = 0)
def sd_dark (D : Nat → Nat) (k t : Nat) : Bool := sd_cov D k t && !sd_slit D k t
theorem sd_first_le {D : Nat → Nat} (h : sd_ok D) (t : Nat) : sd_first D t ≤ D 0 - D 1 := by
  obtain ⟨h0, h1, h2, h3, h4, h5, h6, h7, h8, h9⟩ := h
  unfold sd_first
  have : sd_r D t < 2 * (D 0 - D 1) := Nat.mod_lt _ (by omega)
  split <;> omega
theorem s_firstCovered {D : Nat → Nat} (h : sd_ok D) {t : Nat} (ht : t < 2 ^ 24) : f_X11_firstCovered (nI (D 0)) (nI (D 1)) (nI (D 2)) (nI (D 3)) (nI t) = some (nI (sd_first D t)) := by
  obtain ⟨h0, h1, h2, h3, h4, h5, h6, h7, h8, h9⟩ := h
  unfold f_X11_firstCovered
  have e1 : nI (D 0) - nI (D 1) = nI (D 0 - D 1) := pk_sub (by omega)
  have e2 : (2 : Int32) * nI (D 0 - D 1) = nI (2 * (D 0 - D 1)) := pk_mul 2 (D 0 - D 1)
  have e3 : (t + D 3) / D 2 ≤ t + D 3 := Nat.div_le_self _ _
  simp only [rs_lt_eq]
  rw [e1, if_neg (nI_ne0 (by omega) (by omega)), e2, if_neg (nI_ne0 (by omega) (by omega)), nI_add, pk_div (by omega) (by omega) (by omega), pk_rem (by omega) (by omega) (by omega)]
  have hr : (t + D 3) / D 2 % (2 * (D 0 - D 1)) < 2 * (D 0 - D 1) := Nat.mod_lt _ (by omega)
  unfold sd_first sd_r
  by_cases hc : (t + D 3) / D 2 % (2 * (D 0 - D 1)) ≤ D 0 - D 1
  · rw [if_pos (nI_le hc (by omega)), if_pos hc]
  · rw [if_neg (nI_ge (by omega) (by omega)), if_neg hc, pk_sub (by omega)]
theorem s_firstAt_eq (t n w p a : Int32) (hp : ¬ p < 1) (hw : 1 ≤ n - w) : f_X4_firstAt t n w p a = f_X11_firstCovered n w p a t := by
  unfold f_X4_firstAt f_X11_firstCovered
  simp only [rs_lt_eq]
  rw [if_neg hp, if_pos hw]
theorem s_firstAt {D : Nat → Nat} (h : sd_ok D) {t : Nat} (ht : t < 2 ^ 24) : f_X4_firstAt (nI t) (nI (D 0)) (nI (D 1)) (nI (D 2)) (nI (D 3)) = some (nI (sd_first D t)) := by
  have hh := h
  obtain ⟨h0, h1, h2, h3, h4, h5, h6, h7, h8, h9⟩ := h
  rw [s_firstAt_eq, s_firstCovered hh ht]
  · exact nI_nlt (a := D 2) (b := 1) h4 (by omega)
  · rw [pk_sub (by omega)]
    exact nI_le (a := 1) (by omega) (by omega)
theorem s_covers {D : Nat → Nat} (h : sd_ok D) {k t : Nat} (hk : k ≤ 9) (ht : t < 2 ^ 24) : f_X4_covers (nI k) (nI t) (nI (D 0)) (nI (D 1)) (nI (D 2)) (nI (D 3)) = some (b2 (sd_cov D k t)) := by
  have hf := sd_first_le h t
  unfold f_X4_covers
  rw [s_firstAt h ht, rs_b1_some, nI_add]
  obtain ⟨h0, h1, h2, h3, h4, h5, h6, h7, h8, h9⟩ := h
  unfold sd_cov
  by_cases c1 : k < sd_first D t
  · rw [if_pos (nI_lt c1 (by omega))]
    have : ¬ sd_first D t ≤ k := by omega
    simp [this, b2_f]
  · rw [if_neg (nI_nlt (by omega) (by omega))]
    have c1' : sd_first D t ≤ k := by omega
    by_cases c2 : sd_first D t + D 1 ≤ k
    · rw [if_pos (nI_le c2 (by omega))]
      have : ¬ k < sd_first D t + D 1 := by omega
      simp [this, b2_f]
    · rw [if_neg (nI_ge (by omega) (by omega))]
      have : k < sd_first D t + D 1 := by omega
      simp [this, c1', b2_t]
theorem s_isCovered {D : Nat → Nat} (h : sd_ok D) {k t : Nat} (hk : k ≤ 9) (ht : t < 2 ^ 24) : f_X11_isCovered (nI k) (nI t) (nI (D 0)) (nI (D 1)) (nI (D 2)) (nI (D 3)) = some (b2 (sd_cov D k t)) := by
  have e := s_covers h hk ht
  unfold f_X4_covers at e
  rw [s_firstAt h ht] at e
  unfold f_X11_isCovered
  rw [s_firstCovered h ht]
  exact e
theorem s_hasSlit {D : Nat → Nat} (h : sd_ok D) {k t : Nat} (hk : k ≤ 9) (ht : t < 2 ^ 24) : f_X4_hasSlit (nI k) (nI t) (nI (D 4)) (nI (D 5)) (nI (D 6)) = some (b2 (sd_slit D k t)) := by
  obtain ⟨h0, h1, h2, h3, h4, h5, h6, h7, h8, h9⟩ := h
  unfold f_X4_hasSlit sd_slit
  by_cases hm : D 4 = 0
  · rw [hm]
    simp [b2_f, nI_0]
  · have hne : ¬ nI (D 4) = 0 := nI_ne0 (by omega) (by omega)
    have b1 : t * D 5 ≤ t * 19 := Nat.mul_le_mul_left _ h8
    have b3 : k * D 6 ≤ k * 19 := Nat.mul_le_mul_left _ h9
    rw [if_neg hne, if_neg hne, pk_mul, pk_mul, nI_add, pk_rem (by omega) (by omega) (by omega)]
    have hr : (t * D 5 + k * D 6) % D 4 < D 4 := Nat.mod_lt _ (by omega)
    by_cases c : (t * D 5 + k * D 6) % D 4 = 0
    · rw [c]
      simp [hm, b2_t, nI_0]
    · rw [if_neg (nI_ne0 (by omega) (by omega))]
      simp [c, b2_f]
theorem s_isSlit {D : Nat → Nat} (h : sd_ok D) {k t : Nat} (hk : k ≤ 9) (ht : t < 2 ^ 24) : f_X11_isSlit (nI k) (nI t) (nI (D 4)) (nI (D 5)) (nI (D 6)) = some (b2 (sd_slit D k t)) := by
  obtain ⟨h0, h1, h2, h3, h4, h5, h6, h7, h8, h9⟩ := h
  unfold f_X11_isSlit sd_slit
  by_cases hm : D 4 = 0
  · rw [hm]
    simp [b2_f, nI_0]
  · have hne : ¬ nI (D 4) ≤ 0 := nI_nle (by omega) (by omega)
    have b1 : t * D 5 ≤ t * 19 := Nat.mul_le_mul_left _ h8
    have b3 : k * D 6 ≤ k * 19 := Nat.mul_le_mul_left _ h9
    rw [if_neg hne, nI_l (by omega), nI_l (by omega), nI_l (by omega), nI_l (by omega), nI_l (by omega), lN_mul, lN_mul, lN_add, pk_lRem (by omega) (by omega) (by omega)]
    have hr : (t * D 5 + k * D 6) % D 4 < D 4 := Nat.mod_lt _ (by omega)
    have hne2 : ¬ lN (D 4) = 0 := fun e => by
      have := (pk_lEQ (a := D 4) (b := 0) (by omega) (by omega)).mp e
      omega
    rw [if_neg hne2]
    simp only [lg_cmp_eq]
    by_cases c : (t * D 5 + k * D 6) % D 4 = 0
    · rw [c, if_pos (show lN 0 = 0 from rfl)]
      simp [hm, b2_t]
    · have hne3 : ¬ lN ((t * D 5 + k * D 6) % D 4) = 0 := fun e => by
        have := (pk_lEQ (a := (t * D 5 + k * D 6) % D 4) (b := 0) (by omega) (by omega)).mp e
        omega
      rw [if_neg hne3]
      simp [c, b2_f]
theorem s_isDark {D : Nat → Nat} (h : sd_ok D) {k t : Nat} (hk : k ≤ 9) (ht : t < 2 ^ 24) : f_X4_isDark (nI k) (nI t) (nI (D 0)) (nI (D 1)) (nI (D 2)) (nI (D 3)) (nI (D 4)) (nI (D 5)) (nI (D 6)) = some (b2 (sd_dark D k t)) := by
  unfold f_X4_isDark sd_dark
  rw [s_covers h hk ht, s_hasSlit h hk ht]
  cases sd_cov D k t <;> cases sd_slit D k t <;> rfl
theorem s_isLit {D : Nat → Nat} (h : sd_ok D) {k t : Nat} (hk : k ≤ 9) (ht : t < 2 ^ 24) : f_X11_isLit (nI k) (nI t) (nI (D 0)) (nI (D 1)) (nI (D 2)) (nI (D 3)) (nI (D 4)) (nI (D 5)) (nI (D 6)) = some (b2 (!sd_dark D k t)) := by
  unfold f_X11_isLit sd_dark
  rw [s_isCovered h hk ht, s_isSlit h hk ht]
  cases sd_cov D k t <;> cases sd_slit D k t <;> rfl
