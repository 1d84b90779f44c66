def sm (g : Nat → Nat) : Nat → Nat
  | 0 => 0
  | m + 1 => sm g m + g m
theorem sm_add (g : Nat → Nat) (a : Nat) : ∀ b, sm g (a + b) = sm g a + sm (fun i => g (a + i)) b
  | 0 => rfl
  | b + 1 => by
    show sm g (a + b) + g (a + b) = _
    rw [sm_add g a b]
    show _ = sm g a + (sm (fun i => g (a + i)) b + g (a + b))
    omega
theorem sm_cong {g h : Nat → Nat} : ∀ m, (∀ i, i < m → g i = h i) → sm g m = sm h m
  | 0, _ => rfl
  | m + 1, e => by
    show sm g m + g m = sm h m + h m
    rw [sm_cong m (fun i hi => e i (by omega)), e m (by omega)]
theorem sm_mul (g : Nat → Nat) (v : Nat) : ∀ m, sm (fun i => v * g i) m = v * sm g m
  | 0 => rfl
  | m + 1 => by
    show sm (fun i => v * g i) m + v * g m = v * (sm g m + g m)
    rw [sm_mul g v m, Nat.mul_add]
theorem per_mul {α : Type} {g : Nat → α} {P : Nat} (h : ∀ i, g (i + P) = g i) (q : Nat) : ∀ i, g (i + q * P) = g i := by
  induction q with
  | zero => intro i; simp
  | succ q ih =>
    intro i
    have : i + (q + 1) * P = (i + q * P) + P := by rw [Nat.succ_mul]; omega
    rw [this, h, ih]
theorem sm_per {g : Nat → Nat} {P : Nat} (h : ∀ i, g (i + P) = g i) (q r : Nat) : sm g (q * P + r) = q * sm g P + sm g r := by
  induction q with
  | zero => simp
  | succ q ih =>
    have e : (q + 1) * P + r = P + (q * P + r) := by rw [Nat.succ_mul]; omega
    rw [e, sm_add]
    have : sm (fun i => g (P + i)) (q * P + r) = sm g (q * P + r) := sm_cong _ (fun i _ => by rw [Nat.add_comm P i]; exact h i)
    rw [this, ih, Nat.succ_mul]
    omega
theorem sm_divmod {g : Nat → Nat} {P : Nat} (h : ∀ i, g (i + P) = g i) (m : Nat) : sm g m = sm g (m % P) + m / P * sm g P := by
  have e : m = m / P * P + m % P := by
    have := Nat.div_add_mod m P
    rw [Nat.mul_comm] at this
    omega
  have := sm_per h (m / P) (m % P)
  rw [← e] at this
  omega
def fnd (f : Nat → Bool) : Nat → Option Nat
  | 0 => none
  | m + 1 => match fnd f m with
    | some i => some i
    | none => if f m then some m else none
theorem fnd_none {f : Nat → Bool} : ∀ {m : Nat}, fnd f m = none → ∀ i, i < m → f i = false
  | 0, _, i, hi => by omega
  | m + 1, h, i, hi => by
    unfold fnd at h
    cases hm : fnd f m with
    | some j => rw [hm] at h; cases h
    | none =>
      rw [hm] at h
      by_cases hfm : f m = true
      · simp [hfm] at h
      · by_cases him : i = m
        · subst him; simpa using hfm
        · exact fnd_none hm i (by omega)
theorem fnd_of {f : Nat → Bool} : ∀ {m : Nat}, (∀ i, i < m → f i = false) → fnd f m = none
  | 0, _ => rfl
  | m + 1, h => by
    unfold fnd
    rw [fnd_of (fun i hi => h i (by omega)), h m (by omega)]
    rfl
theorem fnd_mono {f : Nat → Bool} {m : Nat} {i : Nat} (h : fnd f m = some i) : ∀ d, fnd f (m + d) = some i
  | 0 => h
  | d + 1 => by
    show fnd f (m + d + 1) = some i
    unfold fnd
    rw [fnd_mono h d]
theorem fnd_per {f : Nat → Bool} {P m : Nat} (h : ∀ i, f (i + P) = f i) (hP : 1 ≤ P) (hm : P ≤ m) : fnd f m = fnd f P := by
  cases hf : fnd f P with
  | some i =>
    have := fnd_mono hf (m - P)
    rw [show P + (m - P) = m by omega] at this
    exact this
  | none =>
    apply fnd_of
    intro i _
    have e := per_mul h (i / P) (i % P)
    have e2 : i % P + i / P * P = i := by
      have := Nat.div_add_mod i P
      rw [Nat.mul_comm] at this
      omega
    rw [e2] at e
    rw [e]
    exact fnd_none hf _ (Nat.mod_lt _ (by omega))
theorem lp_sum {body : Int32 → Int32 → Option ((Int32 × Int32) ⊕ Int32)} {g : Nat → Nat} {s m N : Nat} (hN : m < N)
    (hs : ∀ i c, i < m → body (nI c) (nI (s + i)) = some (.inl (nI (c + g i), nI (s + i + 1)))) (he : ∀ c, body (nI c) (nI (s + m)) = some (.inr (nI c))) : rs_l2 body N 0 (nI s) = some (nI (sm g m)) := by
  unfold rs_l2
  refine rs_loop_run (fun i => (nI (sm g i), nI (s + i))) m rfl hN ?_ ?_
  · intro i hi
    dsimp only
    rw [hs i _ hi]
    rfl
  · exact he _
def fres (t : Nat) (o : Option Nat) : Int32 := match o with
  | some i => nI (t + i)
  | none => -6
theorem lp_find {body : Int32 → Option (Int32 ⊕ (Unit ⊕ Int32))} {f : Nat → Bool} {s t m N : Nat} (hN : m < N)
    (hs : ∀ i, i < m → body (nI (s + i)) = if f i then some (.inr (.inr (nI (t + i)))) else some (.inl (nI (s + i + 1)))) (he : body (nI (s + m)) = some (.inr (.inl ()))) :
    rs_m0 (rs_l1 body N (nI s)) (some (-6)) = some (fres t (fnd f m)) := by
  unfold rs_l1
  cases hf : fnd f m with
  | none =>
    have hn := fnd_none hf
    have e := rs_loop_run (body := fun s : Int32 => body s) (N := N) (s0 := nI s) (fun i => nI (s + i)) m (r := .inl ()) rfl hN (fun i hi => by show body (nI (s + i)) = _; rw [hs i hi, hn i hi]; rfl) he
    rw [e]
    rfl
  | some i =>
    have key : ∀ m, fnd f m = some i → i < m ∧ f i = true ∧ ∀ j, j < i → f j = false := by
      intro m
      induction m with
      | zero => intro h; cases h
      | succ m ih =>
        intro h
        unfold fnd at h
        cases hm : fnd f m with
        | some j =>
          rw [hm] at h
          cases h
          obtain ⟨a, b, c⟩ := ih hm
          exact ⟨by omega, b, c⟩
        | none =>
          rw [hm] at h
          by_cases hfm : f m = true
          · simp [hfm] at h
            subst h
            exact ⟨by omega, hfm, fun j hj => fnd_none hm j hj⟩
          · simp [hfm] at h
    obtain ⟨h1, h2, h3⟩ := key m hf
    have e := rs_loop_run (body := fun s : Int32 => body s) (N := N) (s0 := nI s) (fun j => nI (s + j)) i (r := .inr (nI (t + i))) rfl (by omega) (fun j hj => by show body (nI (s + j)) = _; rw [hs j (by omega), h3 j hj]; rfl) (by show body (nI (s + i)) = _; rw [hs i h1, h2]; rfl)
    rw [e]
    rfl
-- the period
def sd_R (D : Nat → Nat) : Nat := 2 * (D 0 - D 1) * D 2
def sd_P (D : Nat → Nat) : Nat := if D 4 = 0 then sd_R D else sd_R D * (D 4 / Nat.gcd (sd_R D) (D 4))
theorem sd_R_b {D : Nat → Nat} (h : sd_ok D) : 1 ≤ sd_R D ∧ sd_R D ≤ 144 := by
  obtain ⟨h0, h1, h2, h3, h4, h5, h6, h7, h8, h9⟩ := h
  unfold sd_R
  have a1 : 1 ≤ 2 * (D 0 - D 1) := by omega
  have a2 : 2 * (D 0 - D 1) ≤ 16 := by omega
  exact ⟨Nat.mul_le_mul a1 h4, Nat.mul_le_mul a2 h5⟩
theorem sd_P_b {D : Nat → Nat} (h : sd_ok D) : 1 ≤ sd_P D ∧ sd_P D ≤ 2880 := by
  obtain ⟨r1, r2⟩ := sd_R_b h
  obtain ⟨h0, h1, h2, h3, h4, h5, h6, h7, h8, h9⟩ := h
  unfold sd_P
  split
  · omega
  · have hg : Nat.gcd (sd_R D) (D 4) ≤ D 4 := Nat.gcd_le_right _ (by omega)
    have hg1 : 0 < Nat.gcd (sd_R D) (D 4) := Nat.gcd_pos_of_pos_left _ (by omega)
    have h20 : D 4 / Nat.gcd (sd_R D) (D 4) ≤ 20 := Nat.le_trans (Nat.div_le_self _ _) (by omega)
    have h1' : 1 ≤ D 4 / Nat.gcd (sd_R D) (D 4) := (Nat.le_div_iff_mul_le hg1).mpr (by omega)
    exact ⟨Nat.mul_le_mul r1 h1', Nat.mul_le_mul r2 h20⟩
theorem sd_r_R {D : Nat → Nat} (h : sd_ok D) (t : Nat) : sd_r D (t + sd_R D) = sd_r D t := by
  obtain ⟨h0, h1, h2, h3, h4, h5, h6, h7, h8, h9⟩ := h
  unfold sd_r sd_R
  rw [show t + 2 * (D 0 - D 1) * D 2 + D 3 = (t + D 3) + 2 * (D 0 - D 1) * D 2 by omega, Nat.add_mul_div_right _ _ (by omega), Nat.add_mod_right]
theorem sd_cov_R {D : Nat → Nat} (h : sd_ok D) (k t : Nat) : sd_cov D k (t + sd_R D) = sd_cov D k t := by
  unfold sd_cov sd_first
  rw [sd_r_R h]
theorem sd_slit_M {D : Nat → Nat} (k t : Nat) : sd_slit D k (t + D 4) = sd_slit D k t := by
  unfold sd_slit
  have e : ((t + D 4) * D 5 + k * D 6) % D 4 = (t * D 5 + k * D 6) % D 4 := by
    rw [Nat.add_mul, show t * D 5 + D 4 * D 5 + k * D 6 = (t * D 5 + k * D 6) + D 4 * D 5 by omega, Nat.add_mul_mod_self_left]
  rw [e]
theorem sd_cov_P {D : Nat → Nat} (h : sd_ok D) (k t : Nat) : sd_cov D k (t + sd_P D) = sd_cov D k t := by
  unfold sd_P
  split
  · exact sd_cov_R h k t
  · rw [Nat.mul_comm]
    exact per_mul (g := fun i => sd_cov D k i) (fun i => sd_cov_R h k i) _ t
theorem sd_slit_P {D : Nat → Nat} (h : sd_ok D) (k t : Nat) : sd_slit D k (t + sd_P D) = sd_slit D k t := by
  by_cases h4 : D 4 = 0
  · unfold sd_slit
    rw [h4]
    rfl
  · have e : sd_P D = sd_R D / Nat.gcd (sd_R D) (D 4) * D 4 := by
      unfold sd_P
      rw [if_neg h4]
      obtain ⟨a, ha⟩ := Nat.gcd_dvd_left (sd_R D) (D 4)
      obtain ⟨b, hb⟩ := Nat.gcd_dvd_right (sd_R D) (D 4)
      have hg : 0 < Nat.gcd (sd_R D) (D 4) := Nat.gcd_pos_of_pos_right _ (by omega)
      have e1 : D 4 / Nat.gcd (sd_R D) (D 4) = b := Nat.div_eq_of_eq_mul_right hg hb
      have e2 : sd_R D / Nat.gcd (sd_R D) (D 4) = a := Nat.div_eq_of_eq_mul_right hg ha
      rw [e1, e2]
      have t1 : sd_R D * b = (Nat.gcd (sd_R D) (D 4) * a) * b := congrArg (fun z => z * b) ha
      have t2 : a * D 4 = a * (Nat.gcd (sd_R D) (D 4) * b) := congrArg (fun z => a * z) hb
      rw [t1, t2, Nat.mul_comm (Nat.gcd (sd_R D) (D 4)) a, Nat.mul_assoc]
    rw [e]
    exact per_mul (g := fun i => sd_slit D k i) (fun i => sd_slit_M k i) _ t
theorem sd_dark_P {D : Nat → Nat} (h : sd_ok D) (k t : Nat) : sd_dark D k (t + sd_P D) = sd_dark D k t := by
  unfold sd_dark
  rw [sd_cov_P h, sd_slit_P h]
theorem gd_0 {N i a : Nat} (hi : i < 100) : rs_loop (fun s : Int64 × Int64 × Int32 => f_X10_greatestDivisor_L3 s.1 s.2.1 s.2.2) (N + 1) (lN a, lN 0, nI i) = some (lN a) := by
  unfold rs_loop
  have : f_X10_greatestDivisor_L3 (lN a) (lN 0) (nI i) = some (.inr (lN a)) := by
    unfold f_X10_greatestDivisor_L3
    rw [if_neg (show ¬ (100 : Int32) ≤ nI i from nI_ge (b := 100) hi (by omega)), if_pos ((lg_cmp_eq (lN 0) 0).mpr rfl)]
  simp only [this]
  rfl
theorem gd_1 {N i a b : Nat} (hi : i < 100) (ha : a < 2 ^ 63) (hb : b < 2 ^ 63) (hb0 : 0 < b) : rs_loop (fun s : Int64 × Int64 × Int32 => f_X10_greatestDivisor_L3 s.1 s.2.1 s.2.2) (N + 1) (lN a, lN b, nI i) = rs_loop (fun s : Int64 × Int64 × Int32 => f_X10_greatestDivisor_L3 s.1 s.2.1 s.2.2) N (lN b, lN (a % b), nI (i + 1)) := by
  have hne : ¬ lN b = 0 := fun e => by
    have := (pk_lEQ (a := b) (b := 0) hb (by omega)).mp e
    omega
  have : f_X10_greatestDivisor_L3 (lN a) (lN b) (nI i) = some (.inl (lN b, lN (a % b), nI (i + 1))) := by
    unfold f_X10_greatestDivisor_L3
    rw [if_neg (show ¬ (100 : Int32) ≤ nI i from nI_ge (b := 100) hi (by omega)), if_neg (fun e => hne ((lg_cmp_eq _ _).mp e)), if_neg hne]
    simp only [rs_lt_eq]
    rw [pk_lRem ha hb0 hb, nI_1]
  conv => lhs; unfold rs_loop
  simp only [this]
  rfl
theorem gd_run : ∀ (k a b i N : Nat), b < 2 ^ k → k ≤ 45 → a < 2 ^ 63 → i + 2 * k + 1 ≤ 100 → 2 * k + 1 ≤ N → rs_loop (fun s : Int64 × Int64 × Int32 => f_X10_greatestDivisor_L3 s.1 s.2.1 s.2.2) N (lN a, lN b, nI i) = some (lN (Nat.gcd a b)) := by
  intro k
  induction k with
  | zero =>
    intro a b i N hb _ _ hi hN
    have : b = 0 := by
      have : (2:Nat) ^ 0 = 1 := rfl
      omega
    subst this
    obtain ⟨n, rfl⟩ : ∃ n, N = n + 1 := ⟨N - 1, by omega⟩
    rw [gd_0 (by omega), Nat.gcd_zero_right]
  | succ k ih =>
    intro a b i N hb hk ha hi hN
    have hp : (2 : Nat) ^ (k + 1) = 2 * 2 ^ k := by rw [Nat.pow_succ]; omega
    have hbig : (2 : Nat) ^ (k + 1) ≤ 2 ^ 45 := Nat.pow_le_pow_right (by omega) hk
    have h45 : (2 : Nat) ^ 45 < 2 ^ 63 := by decide
    obtain ⟨n, rfl⟩ : ∃ n, N = n + 1 := ⟨N - 1, by omega⟩
    by_cases hb0 : b = 0
    · subst hb0
      rw [gd_0 (by omega), Nat.gcd_zero_right]
    · rw [gd_1 (by omega) ha (by omega) (by omega)]
      have hr : a % b < b := Nat.mod_lt _ (by omega)
      have hg : Nat.gcd a b = Nat.gcd b (a % b) := by rw [Nat.gcd_comm, Nat.gcd_rec, Nat.gcd_comm]
      by_cases hs : a % b < 2 ^ k
      · rw [ih b (a % b) (i + 1) n hs (by omega) (by omega) (by omega) (by omega), ← hg]
      · obtain ⟨n2, rfl⟩ : ∃ n2, n = n2 + 1 := ⟨n - 1, by omega⟩
        have hpos : 0 < 2 ^ k := Nat.two_pow_pos k
        have hr2 : b % (a % b) < 2 ^ k := by
          have e : b % (a % b) = b - a % b := by
            rw [Nat.mod_eq_sub_mod (by omega), Nat.mod_eq_of_lt (by omega)]
          omega
        rw [gd_1 (by omega) (by omega) (by omega) (by omega), ih (a % b) (b % (a % b)) (i + 1 + 1) n2 hr2 (by omega) (by omega) (by omega) (by omega)]
        have hg2 : Nat.gcd b (a % b) = Nat.gcd (a % b) (b % (a % b)) := by rw [Nat.gcd_comm, Nat.gcd_rec, Nat.gcd_comm]
        rw [hg, hg2]
theorem s_gcd {a b N : Nat} (ha : a < 2 ^ 63) (hb : b < 2 ^ 45) (hN : 100 < N) : f_X10_greatestDivisor N (lN a) (lN b) = some (lN (Nat.gcd a b)) := by
  unfold f_X10_greatestDivisor rs_l3
  have := gd_run 45 a b 0 N hb (by omega) ha (by omega) (by omega)
  rw [show (0 : Int32) = nI 0 from rfl, this]
  rfl
theorem s_cut {a b : Nat} (ha : a < 2 ^ 31) (hb : b < 2 ^ 31) (hb0 : 0 < b) : f_X10_cut (nI a) (nI b) = some (nI (a / b)) := by
  unfold f_X10_cut
  rw [if_neg (nI_ne0 hb0 hb), if_neg (nI_ne0 hb0 hb), pk_div ha hb0 hb]
theorem s_leftOver {a b : Nat} (ha : a < 2 ^ 31) (hb : b < 2 ^ 31) (hb0 : 0 < b) : f_X10_leftOver (nI a) (nI b) = some (nI (a % b)) := by
  unfold f_X10_leftOver
  rw [if_neg (nI_ne0 hb0 hb), if_neg (nI_ne0 hb0 hb), pk_rem ha hb0 hb]
theorem s_period {D : Nat → Nat} (h : sd_ok D) {N : Nat} (hN : 100 < N) : f_X4_period N (nI (D 0)) (nI (D 1)) (nI (D 2)) (nI (D 4)) = some (nI (sd_P D)) := by
  obtain ⟨r1, r2⟩ := sd_R_b h
  obtain ⟨h0, h1, h2, h3, h4, h5, h6, h7, h8, h9⟩ := h
  unfold f_X4_period f_X4_turn
  rw [rs_b1_some, pk_sub (by omega), show (2 : Int32) = nI 2 from rfl, pk_mul, pk_mul]
  simp only [rs_lt_eq]
  have eR : 2 * (D 0 - D 1) * D 2 = sd_R D := rfl
  rw [eR]
  unfold sd_P
  by_cases hm : D 4 = 0
  · rw [hm]
    simp [nI_0]
  · have hg : Nat.gcd (sd_R D) (D 4) ≤ D 4 := Nat.gcd_le_right _ (by omega)
    have hg1 : 0 < Nat.gcd (sd_R D) (D 4) := Nat.gcd_pos_of_pos_left _ (by omega)
    rw [if_neg (nI_ne0 (by omega) (by omega)), if_neg hm, nI_l (by omega), nI_l (by omega), s_gcd (by omega) (by omega) hN, rs_b1_some, lN_i, s_cut (by omega) (by omega) hg1, rs_b1_some, pk_mul]
theorem s_countLit {D : Nat → Nat} (h : sd_ok D) {k t m N : Nat} (hk : k ≤ 9) (ht : t + m < 2 ^ 24) (hN : m < N) : f_X4_countLit N (nI k) (nI t) (nI m) (nI (D 0)) (nI (D 1)) (nI (D 2)) (nI (D 3)) (nI (D 4)) (nI (D 5)) (nI (D 6)) = some (nI (sm (fun i => if sd_dark D k (t + i) then 0 else 1) m)) := by
  unfold f_X4_countLit
  have key : ∀ i c, i ≤ m → f_X4_countLit_L6 (nI m) (nI k) (nI t) (nI (D 0)) (nI (D 1)) (nI (D 2)) (nI (D 3)) (nI (D 4)) (nI (D 5)) (nI (D 6)) (nI c) (nI (0 + i)) = if m ≤ i then some (.inr (nI c)) else some (.inl (nI (c + (if sd_dark D k (t + i) then 0 else 1)), nI (0 + i + 1))) := by
    intro i c hi
    rw [Nat.zero_add]
    unfold f_X4_countLit_L6
    by_cases hc : m ≤ i
    · rw [if_pos (nI_le hc (by omega)), if_pos hc]
    · rw [if_neg (nI_ge (by omega) (by omega)), if_neg hc, nI_add, s_isDark h hk (by omega), rs_b1_some]
      simp only [b2_0, nI_1]
      cases sd_dark D k (t + i) <;> rfl
  have e : rs_l2 (f_X4_countLit_L6 (nI m) (nI k) (nI t) (nI (D 0)) (nI (D 1)) (nI (D 2)) (nI (D 3)) (nI (D 4)) (nI (D 5)) (nI (D 6))) N 0 0 = some (nI (sm (fun i => if sd_dark D k (t + i) then 0 else 1) m)) := lp_sum (s := 0) (m := m) hN (fun i c hi => by rw [key i c (by omega), if_neg (by omega)]) (fun c => by rw [key m c (Nat.le_refl _), if_pos (Nat.le_refl _)])
  rw [e]
  rfl
theorem s_litsM {D : Nat → Nat} (h : sd_ok D) {k t m N : Nat} (hk : k ≤ 9) (ht : t + m < 2 ^ 24) (hN : m < N) : rs_l2 (f_X11_lits_L38 (nI t) (nI m) (nI k) (nI (D 0)) (nI (D 1)) (nI (D 2)) (nI (D 3)) (nI (D 4)) (nI (D 5)) (nI (D 6))) N 0 (nI t) = some (nI (sm (fun i => if sd_dark D k (t + i) then 0 else 1) m)) := by
  have key : ∀ i c, i ≤ m → f_X11_lits_L38 (nI t) (nI m) (nI k) (nI (D 0)) (nI (D 1)) (nI (D 2)) (nI (D 3)) (nI (D 4)) (nI (D 5)) (nI (D 6)) (nI c) (nI (t + i)) = if m ≤ i then some (.inr (nI c)) else some (.inl (nI (c + (if sd_dark D k (t + i) then 0 else 1)), nI (t + i + 1))) := by
    intro i c hi
    unfold f_X11_lits_L38
    rw [nI_add]
    by_cases hc : m ≤ i
    · rw [if_pos (nI_le (by omega) (by omega)), if_pos hc]
    · rw [if_neg (nI_ge (by omega) (by omega)), if_neg hc, s_isLit h hk (by omega), rs_b1_some]
      simp only [b2_0, nI_1]
      cases sd_dark D k (t + i)
      · show some (Sum.inl (nI c + 1, _)) = _
        rw [nI_1]; rfl
      · show some (Sum.inl (nI c + 0, _)) = _
        rw [show (0 : Int32) = nI 0 from rfl, nI_add]; rfl
  exact lp_sum (s := t) (m := m) hN (fun i c hi => by rw [key i c (by omega), if_neg (by omega)]) (fun c => by rw [key m c (Nat.le_refl _), if_pos (Nat.le_refl _)])
