-- walks
def lf (g : Nat → Nat) (k : Nat) : Nat := if k = 0 then 0 else g (k - 1)
def wc (D : Nat → Nat) (t a : Nat) : Nat → Nat → Nat
  | 0, k => if k = a ∧ sd_dark D k t = true then 1 else 0
  | i + 1, k => if sd_dark D k (t + (i + 1)) then lf (wc D t a i) k + wc D t a i k + wc D t a i (k + 1) else 0
theorem wc_z (D : Nat → Nat) (t a k : Nat) : wc D t a 0 k = if k = a ∧ sd_dark D k t = true then 1 else 0 := rfl
theorem wc_s (D : Nat → Nat) (t a i k : Nat) : wc D t a (i + 1) k = if sd_dark D k (t + (i + 1)) then lf (wc D t a i) k + wc D t a i k + wc D t a i (k + 1) else 0 := rfl
theorem wc_b (D : Nat → Nat) (t a : Nat) : ∀ i k, wc D t a i k ≤ 3 ^ i
  | 0, k => by
    rw [wc_z]
    split <;> simp
  | i + 1, k => by
    have h1 := wc_b D t a i k
    have h2 := wc_b D t a i (k + 1)
    have h3 : lf (wc D t a i) k ≤ 3 ^ i := by
      unfold lf
      split
      · omega
      · exact wc_b D t a i (k - 1)
    rw [wc_s, Nat.pow_succ]
    split <;> omega
theorem wc_b30 (D : Nat → Nat) (t a : Nat) {i : Nat} (hi : i ≤ 30) (k : Nat) : wc D t a i k < 2 ^ 48 := by
  have h1 := wc_b D t a i k
  have h2 : (3 : Nat) ^ i ≤ 3 ^ 30 := Nat.pow_le_pow_right (by omega) hi
  have h3 : (3 : Nat) ^ 30 < 2 ^ 48 := by decide
  omega
theorem sd_dark_out {D : Nat → Nat} (h : sd_ok D) {k t : Nat} (hk : D 0 ≤ k) : sd_dark D k t = false := by
  have hf := sd_first_le h t
  obtain ⟨h0, h1, h2, h3, h4, h5, h6, h7, h8, h9⟩ := h
  unfold sd_dark sd_cov
  have : ¬ k < sd_first D t + D 1 := by omega
  simp [this]
theorem wc_out {D : Nat → Nat} (h : sd_ok D) (t a i : Nat) {k : Nat} (hk : D 0 ≤ k) : wc D t a i k = 0 := by
  cases i with
  | zero => rw [wc_z, if_neg (fun z => by rw [sd_dark_out h hk] at z; exact absurd z.2 (by decide))]
  | succ i => rw [wc_s, sd_dark_out h hk]; rfl
theorem s_atL {n k : Nat} (f : Nat → Int64) (hn : n < 2 ^ 31) (hk : k < n) : f_X10_at_ n (nI k) f = some (f k) := by
  unfold f_X10_at_
  rw [if_neg (nI_pos (by omega)), if_neg (show ¬ Int32.ofNat n ≤ nI k from nI_ge hk hn), if_neg (nI_in hk (by omega)), nI_clamp (by omega)]
theorem s_atLo {n k : Nat} (f : Nat → Int64) (hn : n < 2 ^ 31) (hk : n ≤ k) (hk2 : k < 2 ^ 31) : f_X10_at_ n (nI k) f = some 0 := by
  unfold f_X10_at_
  rw [if_neg (nI_pos (by omega)), if_pos (show Int32.ofNat n ≤ nI k from nI_le hk (by omega))]
theorem s_addL {n k : Nat} (f : Nat → Int64) (v : Int64) (hn : n < 2 ^ 31) (hk : k < n) : f_X10_add n (nI k) v f = some (vp_updL f k (f k + v)) := by
  unfold f_X10_add
  rw [if_neg (nI_pos (by omega)), if_neg (show ¬ Int32.ofNat n ≤ nI k from nI_ge hk hn), if_neg (nI_in hk (by omega)), nI_clamp (by omega), rs_lt_eq, if_neg (gI hk (by omega))]
theorem s_clearL {n N : Nat} (hn : n < 2 ^ 31) (hN : n < N) (a : Nat → Int64) : ∃ c, f_X10_clear_ N n a = some c ∧ ∀ j, j < n → c j = lN 0 := by
  unfold f_X10_clear_ rs_l2
  obtain ⟨r, h1, h2⟩ := rs_loop_inv (body := fun s : (Nat → Int64) × Int32 => f_X10_clear__L2 n s.1 s.2) (fun i s => s.2 = nI i ∧ ∀ k, k < i → s.1 k = lN 0) (fun g => ∀ k, k < n → g k = lN 0) n (by
    rintro i ⟨g, x⟩ hi ⟨hx, hg⟩
    dsimp only at hx hg ⊢
    subst hx
    unfold f_X10_clear__L2
    by_cases hc : n ≤ i
    · have : i = n := by omega
      rw [if_pos (show Int32.ofNat n ≤ nI i from nI_le hc (by omega))]
      subst this
      exact Or.inr ⟨g, rfl, hg⟩
    · rw [if_neg (show ¬ Int32.ofNat n ≤ nI i from nI_ge (by omega) (by omega)), if_neg (nI_in (by omega) (by omega)), nI_clamp (by omega), nI_1]
      refine Or.inl ⟨_, rfl, ⟨rfl, ?_⟩, by omega⟩
      intro k hk
      dsimp only
      by_cases hki : k = i
      · subst hki; rw [pk_uLs]; rfl
      · rw [pk_uLn hki]; exact hg k (by omega)) N 0 (a, 0) (by omega) (by omega) ⟨rfl, fun k hk => by omega⟩
  rw [h1]
  exact ⟨r, rfl, h2⟩
theorem bit_sh1 : ∀ k, k < 9 → ∀ a, a < 512 → (((nI a >>> (nI k &&& 31)) &&& 1) = 1 ↔ a / 2 ^ k % 2 = 1) := by decide +kernel
theorem s_bit1 {D : Nat → Nat} {y k : Nat} (hk : k < 9) : (((nI (mk (fun k => sd_dark D k y) 9) >>> (nI k &&& 31)) &&& 1) = 1) ↔ sd_dark D k y = true := by
  rw [bit_sh1 k hk _ (mk_lt _ 9), mk_bit _ 9 k hk]
  cases sd_dark D k y <;> simp
theorem s_stepX {D : Nat → Nat} (h : sd_ok D) {t a i N : Nat} (hN : 20 < N) {f : Nat → Int64} (hf : ∀ k, k < 9 → f k = lN (wc D t a i k)) (g : Nat → Int64) :
    ∃ g2, f_X8_step N 9 9 (nI (mk (fun k => sd_dark D k (t + (i + 1))) 9)) g f = some g2 ∧ ∀ k, k < 9 → g2 k = lN (wc D t a (i + 1) k) := by
  have hb := h.2.1
  unfold f_X8_step
  obtain ⟨c, c1, c2⟩ := s_clearL (n := 9) (N := N) (by omega) (by omega) g
  rw [c1, rs_b1_some]
  unfold rs_l2
  obtain ⟨r, h1, h2⟩ := rs_loop_inv (body := fun s : (Nat → Int64) × Int32 => f_X8_step_L6 (nI (mk (fun k => sd_dark D k (t + (i + 1))) 9)) 9 f 9 s.1 s.2) (fun j s => s.2 = nI j ∧ ∀ k, k < 9 → s.1 k = lN (if k < j then wc D t a (i + 1) k else 0)) (fun g => ∀ k, k < 9 → g k = lN (wc D t a (i + 1) k)) 9 (by
    rintro j ⟨u, x⟩ hj ⟨q1, q2⟩
    dsimp only at q1 q2 ⊢
    subst q1
    unfold f_X8_step_L6
    by_cases hc : 9 ≤ j
    · have : j = 9 := by omega
      subst this
      refine Or.inr ⟨u, rfl, fun k hk => ?_⟩
      rw [q2 k hk, if_pos hk]
    · rw [if_neg (show ¬ (9 : Int32) ≤ nI j from nI_ge (b := 9) (by omega) (by omega)), nI_1]
      have e0 : f_X10_at_ 9 (nI j - 1) f = some (lN (lf (wc D t a i) j)) := by
        unfold lf
        by_cases c0 : j = 0
        · subst c0
          rfl
        · rw [show nI j - 1 = nI (j - 1) from pk_sub (b := 1) (by omega), s_atL f (by omega) (by omega), hf _ (by omega), if_neg c0]
      have e2 : f_X10_at_ 9 (nI (j + 1)) f = some (lN (wc D t a i (j + 1))) := by
        by_cases c0 : j + 1 < 9
        · rw [s_atL f (by omega) c0, hf _ c0]
        · rw [s_atLo f (by omega) (by omega) (by omega), wc_out h t a i (by omega)]
          rfl
      by_cases cd : sd_dark D j (t + (i + 1)) = true
      · rw [if_pos ((s_bit1 (by omega)).mpr cd), e0, rs_b1_some, s_atL f (by omega) (by omega), rs_b1_some, e2, rs_b1_some, s_addL u _ (by omega) (by omega), rs_b1_some, rs_b1_some]
        refine Or.inl ⟨_, rfl, ⟨rfl, ?_⟩, by omega⟩
        intro k hk
        dsimp only
        by_cases hkj : k = j
        · subst hkj
          rw [pk_uLs, q2 k hk, hf k hk, if_neg (by omega), if_pos (by omega), lN_add, lN_add, lN_add, wc_s, if_pos cd, Nat.zero_add]
        · rw [pk_uLn hkj, q2 k hk]
          by_cases c3 : k < j
          · rw [if_pos c3, if_pos (by omega)]
          · rw [if_neg c3, if_neg (by omega)]
      · rw [if_neg (fun z => cd ((s_bit1 (by omega)).mp z)), rs_b1_some]
        refine Or.inl ⟨_, rfl, ⟨rfl, ?_⟩, by omega⟩
        intro k hk
        dsimp only
        rw [q2 k hk]
        by_cases hkj : k = j
        · subst hkj
          rw [if_neg (by omega), if_pos (by omega), wc_s, if_neg cd]
        · by_cases c3 : k < j
          · rw [if_pos c3, if_pos (by omega)]
          · rw [if_neg c3, if_neg (by omega)]) N 0 (c, 0) (by omega) (by omega) ⟨rfl, fun k hk => by dsimp only; rw [c2 k hk, if_neg (by omega)]⟩
  rw [h1]
  exact ⟨r, rfl, h2⟩
theorem s_waysX {D : Nat → Nat} (h : sd_ok D) {t m a b N : Nat} (hN : 200 < N) (ht : t + m < 2 ^ 23) (hm : m ≤ 100) (ha : a < 9) (hb : b < 9) (f g : Nat → Int64) :
    f_X8_countWays N (nI a) (nI b) (nI t) (nI m) f (nI (D 0)) (nI (D 1)) (nI (D 2)) (nI (D 3)) (nI (D 4)) (nI (D 5)) (nI (D 6)) g = some (lN (wc D t a m b)) := by
  unfold f_X8_countWays
  obtain ⟨c, c1, c2⟩ := s_clearL (n := 9) (N := N) (by omega) (by omega) f
  rw [c1, rs_b1_some, s_isDark h (by omega) (by omega), rs_b1_some]
  have e1 : (if b2 (sd_dark D a t) = 0 then some (0 : Int64) else some 1) = some (lN (if sd_dark D a t then 1 else 0)) := by
    cases sd_dark D a t <;> rfl
  rw [e1, rs_b1_some, s_addL c _ (by omega) (by omega), rs_b1_some, c2 a ha, lN_add, Nat.zero_add]
  unfold rs_l3
  obtain ⟨r, h1, h2⟩ := rs_loop_inv (body := fun s : (Nat → Int64) × (Nat → Int64) × Int32 => f_X8_countWays_L41 N (nI m) (nI t) (nI (D 0)) (nI (D 1)) (nI (D 2)) (nI (D 3)) (nI (D 4)) (nI (D 5)) (nI (D 6)) s.1 s.2.1 s.2.2) (fun i s => s.2.2 = nI (i + 1) ∧ ∀ k, k < 9 → s.1 k = lN (wc D t a i k)) (fun r => ∀ k, k < 9 → r.1 k = lN (wc D t a m k)) m (by
    rintro i ⟨u, v, x⟩ hi ⟨q1, q2⟩
    dsimp only at q1 q2 ⊢
    subst q1
    unfold f_X8_countWays_L41
    by_cases hc : m ≤ i
    · have : i = m := by omega
      subst this
      rw [if_pos (nI_lt (by omega) (by omega))]
      exact Or.inr ⟨_, rfl, q2⟩
    · rw [if_neg (nI_nlt (by omega) (by omega)), nI_add, s_darkAt h (by omega) (by omega), rs_b1_some]
      obtain ⟨g2, w1, w2⟩ := s_stepX h (N := N) (by omega) q2 v
      rw [w1, rs_b1_some, nI_1]
      exact Or.inl ⟨_, rfl, ⟨rfl, w2⟩, by omega⟩) N 0 (vp_updL c a (lN (if sd_dark D a t then 1 else 0)), g, 1) (by omega) (by omega) ⟨rfl, fun k hk => by
        dsimp only
        rw [wc_z]
        by_cases hka : k = a
        · subst hka
          rw [pk_uLs]
          simp
        · rw [pk_uLn hka, c2 k hk, if_neg (fun z => hka z.1)]⟩
  obtain ⟨r1, r2⟩ := r
  rw [h1, rs_b2_some, s_atL r1 (by omega) hb, rs_b1_some]
  exact congrArg some (h2 b hb)
theorem s_standM {D : Nat → Nat} (h : sd_ok D) {t a N : Nat} (hN : 20 < N) (ht : t < 2 ^ 23) (ha : a < 9) (f : Nat → Int64) :
    ∃ f2, f_X11_stand N (nI a) (nI t) (nI (D 0)) (nI (D 1)) (nI (D 2)) (nI (D 3)) (nI (D 4)) (nI (D 5)) (nI (D 6)) f = some f2 ∧ ∀ k, k < 9 → f2 k = lN (wc D t a 0 k) := by
  unfold f_X11_stand rs_l2
  obtain ⟨r, h1, h2⟩ := rs_loop_inv (body := fun s : (Nat → Int64) × Int32 => f_X11_stand_L2 (nI a) (nI t) (nI (D 0)) (nI (D 1)) (nI (D 2)) (nI (D 3)) (nI (D 4)) (nI (D 5)) (nI (D 6)) s.1 s.2) (fun j s => s.2 = nI j ∧ ∀ k, k < j → s.1 k = lN (wc D t a 0 k)) (fun g => ∀ k, k < 9 → g k = lN (wc D t a 0 k)) 9 (by
    rintro j ⟨u, x⟩ hj ⟨q1, q2⟩
    dsimp only at q1 q2 ⊢
    subst q1
    unfold f_X11_stand_L2
    by_cases hc : 9 ≤ j
    · have : j = 9 := by omega
      subst this
      exact Or.inr ⟨u, rfl, q2⟩
    · rw [if_neg (show ¬ (9 : Int32) ≤ nI j from nI_ge (b := 9) (by omega) (by omega)), s_isLit h (by omega) (by omega), nI_1]
      have e : (if nI j = nI a then rs_b1 (some (b2 (!sd_dark D j t))) (fun (x21 : Int32) => if x21 = 0 then some (1 : Int64) else some 0) else some 0) = some (lN (wc D t a 0 j)) := by
        rw [wc_z]
        by_cases c : j = a
        · subst c
          rw [if_pos rfl]
          cases sd_dark D j t <;> simp [rs_b1_some] <;> rfl
        · rw [if_neg (fun z => c ((nI_eq (by omega) (by omega)).mp z)), if_neg (fun z => c z.1)]
          rfl
      rw [e, rs_b1_some, if_neg (nI_in (by omega) (by omega)), nI_clamp (by omega)]
      refine Or.inl ⟨_, rfl, ⟨rfl, ?_⟩, by omega⟩
      intro k hk
      dsimp only
      by_cases hkj : k = j
      · subst hkj; rw [pk_uLs]
      · rw [pk_uLn hkj]; exact q2 k (by omega)) N 0 (f, 0) (by omega) (by omega) ⟨rfl, fun k hk => by omega⟩
  rw [h1]
  exact ⟨r, rfl, h2⟩
theorem s_stepM {D : Nat → Nat} (h : sd_ok D) {t a i N : Nat} (hN : 20 < N) (ht : t + (i + 1) < 2 ^ 23) {f : Nat → Int64} (hf : ∀ k, k < 9 → f k = lN (wc D t a i k)) (g : Nat → Int64) :
    ∃ f2 g2, f_X11_step N (nI (t + (i + 1))) (nI (D 0)) (nI (D 1)) (nI (D 2)) (nI (D 3)) (nI (D 4)) (nI (D 5)) (nI (D 6)) f g = some (f2, g2) ∧ ∀ k, k < 9 → f2 k = lN (wc D t a (i + 1) k) := by
  have hb := h.2.1
  unfold f_X11_step rs_l2
  obtain ⟨r, h1, h2⟩ := rs_loop_inv (body := fun s : (Nat → Int64) × Int32 => f_X11_step_L2 (nI (D 0)) f (nI (t + (i + 1))) (nI (D 1)) (nI (D 2)) (nI (D 3)) (nI (D 4)) (nI (D 5)) (nI (D 6)) s.1 s.2) (fun j s => s.2 = nI j ∧ ∀ k, k < j → s.1 k = lN (wc D t a (i + 1) k)) (fun g => ∀ k, k < D 0 → g k = lN (wc D t a (i + 1) k)) (D 0) (by
    rintro j ⟨u, x⟩ hj ⟨q1, q2⟩
    dsimp only at q1 q2 ⊢
    subst q1
    unfold f_X11_step_L2
    by_cases hc : D 0 ≤ j
    · have : j = D 0 := by omega
      rw [if_pos (nI_le hc (by omega))]
      subst this
      exact Or.inr ⟨u, rfl, q2⟩
    · rw [if_neg (nI_ge (by omega) (by omega)), if_neg (nI_in (c := j) (N := 9) (by omega) (by omega)), s_isLit h (by omega) (by omega), nI_1, nI_clamp (n := j) (by omega), hf j (by omega)]
      have e0 : (if nI j ≤ 0 then some (0 : Int64) else if ((nI j - 1) < 0 ∨ 9 ≤ (nI j - 1).toNatClampNeg) then none else some (f (nI j - 1).toNatClampNeg)) = some (lN (lf (wc D t a i) j)) := by
        unfold lf
        by_cases c0 : j = 0
        · subst c0
          rfl
        · rw [show nI j - 1 = nI (j - 1) from pk_sub (b := 1) (by omega), if_neg (nI_nle (by omega) (by omega)), if_neg (nI_in (by omega) (by omega)), nI_clamp (by omega), hf _ (by omega), if_neg c0]
      have e2 : (if nI (D 0) ≤ nI (j + 1) then some (0 : Int64) else if (nI (j + 1) < 0 ∨ 9 ≤ (nI (j + 1)).toNatClampNeg) then none else some (f (nI (j + 1)).toNatClampNeg)) = some (lN (wc D t a i (j + 1))) := by
        by_cases c0 : D 0 ≤ j + 1
        · rw [if_pos (nI_le c0 (by omega)), wc_out h t a i c0]
          rfl
        · rw [if_neg (nI_ge (by omega) (by omega)), if_neg (nI_in (by omega) (by omega)), nI_clamp (by omega), hf _ (by omega)]
      rw [e0, rs_b1_some, e2, rs_b1_some, rs_lt_eq, rs_b1_some, lN_add, lN_add]
      have e3 : (if b2 (!sd_dark D j (t + (i + 1))) = 0 then some (lN (wc D t a i j + lf (wc D t a i) j + wc D t a i (j + 1))) else some 0) = some (lN (wc D t a (i + 1) j)) := by
        rw [wc_s, Nat.add_comm (wc D t a i j)]
        cases sd_dark D j (t + (i + 1)) <;> rfl
      rw [e3, rs_b1_some, if_neg (gI (c := j) (N := 9) (by omega) (by omega))]
      refine Or.inl ⟨_, rfl, ⟨rfl, ?_⟩, by omega⟩
      intro k hk
      dsimp only
      by_cases hkj : k = j
      · subst hkj; rw [pk_uLs]
      · rw [pk_uLn hkj]; exact q2 k (by omega)) N 0 (g, 0) (by omega) (by omega) ⟨rfl, fun k hk => by omega⟩
  rw [h1, rs_b1_some]
  obtain ⟨r2, h3, h4⟩ := rs_loop_inv (body := fun s : (Nat → Int64) × Int32 => f_X11_step_L85 (nI (D 0)) r s.1 s.2) (fun j s => s.2 = nI j ∧ (∀ k, k < j → s.1 k = lN (wc D t a (i + 1) k)) ∧ ∀ k, D 0 ≤ k → k < 9 → s.1 k = lN 0) (fun g => (∀ k, k < D 0 → g k = lN (wc D t a (i + 1) k)) ∧ ∀ k, D 0 ≤ k → k < 9 → g k = lN 0) (D 0) (by
    rintro j ⟨u, x⟩ hj ⟨q1, q2, q3⟩
    dsimp only at q1 q2 q3 ⊢
    subst q1
    unfold f_X11_step_L85
    by_cases hc : D 0 ≤ j
    · have : j = D 0 := by omega
      rw [if_pos (nI_le hc (by omega))]
      subst this
      exact Or.inr ⟨u, rfl, q2, q3⟩
    · rw [if_neg (nI_ge (by omega) (by omega)), if_neg (nI_in (c := j) (N := 9) (by omega) (by omega)), if_neg (nI_in (c := j) (N := 9) (by omega) (by omega)), nI_clamp (n := j) (by omega), nI_1]
      refine Or.inl ⟨_, rfl, ⟨rfl, ?_, ?_⟩, by omega⟩
      · intro k hk
        dsimp only
        by_cases hkj : k = j
        · subst hkj; rw [pk_uLs]; exact h2 k (by omega)
        · rw [pk_uLn hkj]; exact q2 k (by omega)
      · intro k hk hk2
        dsimp only
        rw [pk_uLn (by omega)]
        exact q3 k hk hk2) N 0 (f, 0) (by omega) (by omega) ⟨rfl, (fun k hk => by omega), fun k hk hk2 => by dsimp only; rw [hf k hk2, wc_out h t a i hk]⟩
  rw [h3]
  refine ⟨r2, r, rfl, fun k hk => ?_⟩
  by_cases c : k < D 0
  · exact h4.1 k c
  · rw [h4.2 k (by omega) hk, wc_out h t a (i + 1) (by omega)]
theorem s_goWalk {D : Nat → Nat} (h : sd_ok D) {t m a N : Nat} (hN : 200 < N) (ht : t + m < 2 ^ 23) (hm : m ≤ 100) (ha : a < 9) (f g : Nat → Int64) :
    ∃ f2 g2, f_X11_goWalk N (nI a) (nI t) (nI m) (nI (D 0)) (nI (D 1)) (nI (D 2)) (nI (D 3)) (nI (D 4)) (nI (D 5)) (nI (D 6)) f g = some (f2, g2) ∧ ∀ k, k < 9 → f2 k = lN (wc D t a m k) := by
  unfold f_X11_goWalk
  obtain ⟨c, c1, c2⟩ := s_standM h (N := N) (t := t) (by omega) (by omega) ha f
  rw [c1, rs_b1_some]
  unfold rs_l3
  obtain ⟨r, h1, h2⟩ := rs_loop_inv (body := fun s : (Nat → Int64) × (Nat → Int64) × Int32 => f_X11_goWalk_L9 N (nI m) (nI t) (nI (D 0)) (nI (D 1)) (nI (D 2)) (nI (D 3)) (nI (D 4)) (nI (D 5)) (nI (D 6)) s.1 s.2.1 s.2.2) (fun i s => s.2.2 = nI (i + 1) ∧ ∀ k, k < 9 → s.1 k = lN (wc D t a i k)) (fun r => ∀ k, k < 9 → r.1 k = lN (wc D t a m k)) m (by
    rintro i ⟨u, v, x⟩ hi ⟨q1, q2⟩
    dsimp only at q1 q2 ⊢
    subst q1
    unfold f_X11_goWalk_L9
    by_cases hc : m ≤ i
    · have : i = m := by omega
      subst this
      rw [if_pos (nI_lt (by omega) (by omega))]
      exact Or.inr ⟨_, rfl, q2⟩
    · rw [if_neg (nI_nlt (by omega) (by omega)), nI_add]
      obtain ⟨f2, g2, w1, w2⟩ := s_stepM h (N := N) (by omega) (by omega) q2 v
      rw [w1, rs_b2_some, nI_1]
      exact Or.inl ⟨_, rfl, ⟨rfl, w2⟩, by omega⟩) N 0 (c, g, 1) (by omega) (by omega) ⟨rfl, c2⟩
  obtain ⟨r1, r2⟩ := r
  rw [h1]
  exact ⟨r1, r2, rfl, h2⟩
-- places as bits
def pl (D : Nat → Nat) (t a i : Nat) : Nat := mk (fun k => decide (0 < wc D t a i k)) 9
theorem s_places {D : Nat → Nat} (h : sd_ok D) {t a i N : Nat} (hN : 20 < N) (hi : i ≤ 30) {f : Nat → Int64} (hf : ∀ k, k < 9 → f k = lN (wc D t a i k)) : f_X11_placesNow N (nI (D 0)) f = some (nI (pl D t a i)) := by
  have hb := h.2.1
  unfold f_X11_placesNow
  have e : rs_l2 (f_X11_placesNow_L4 (nI (D 0)) f) N 0 0 = some (nI (pl D t a i)) := by
    unfold rs_l2
    refine rs_loop_run (fun j => (nI (mk (fun k => decide (0 < wc D t a i k)) j), nI j)) (D 0) rfl (by omega) ?_ ?_
    · intro j hj
      show f_X11_placesNow_L4 _ _ (nI (mk (fun k => decide (0 < wc D t a i k)) j)) (nI j) = _
      unfold f_X11_placesNow_L4
      have hm := mk_lt (fun k => decide (0 < wc D t a i k)) j
      have hw := wc_b30 D t a hi j
      rw [if_neg (nI_ge (by omega) (by omega)), if_neg (nI_in (c := j) (N := 9) (by omega) (by omega)), nI_clamp (n := j) (by omega), hf j (by omega), nI_1]
      simp only [lg_cmp_le, rs_lt_eq]
      show _ = some (Sum.inl (nI (mk (fun k => decide (0 < wc D t a i k)) j + (if decide (0 < wc D t a i j) then 2 ^ j else 0)), _))
      by_cases c : 0 < wc D t a i j
      · rw [if_neg (fun z => by have := (pk_lLE (a := wc D t a i j) (b := 0) (by omega) (by omega)).mp z; omega), rs_b1_some, bit_or _ (by omega) _ hm, decide_eq_true c]
        rfl
      · rw [if_pos (show lN (wc D t a i j) ≤ 0 from (pk_lLE (a := wc D t a i j) (b := 0) (by omega) (by omega)).mpr (by omega)), rs_b1_some, decide_eq_false c]
        have : nI (mk (fun k => decide (0 < wc D t a i k)) j) ||| 0 = nI (mk (fun k => decide (0 < wc D t a i k)) j) := Int32.or_zero
        rw [this]
        rfl
    · show f_X11_placesNow_L4 _ _ (nI (mk (fun k => decide (0 < wc D t a i k)) (D 0))) (nI (D 0)) = _
      unfold f_X11_placesNow_L4
      rw [if_pos (nI_le (Nat.le_refl _) (by omega))]
      have := mk_ext (f := fun k => decide (0 < wc D t a i k)) (a := D 0) (9 - D 0) (fun k hk _ => by rw [wc_out h t a i hk]; rfl)
      rw [show D 0 + (9 - D 0) = 9 by omega] at this
      unfold pl
      rw [this]
  rw [e]
  rfl
theorem nI_and (a b : Nat) : nI a &&& nI b = nI (a &&& b) := by
  apply Int32.toBitVec_inj.mp
  show BitVec.ofNat 32 a &&& BitVec.ofNat 32 b = BitVec.ofNat 32 (a &&& b)
  exact (BitVec.ofNat_and).symm
theorem bes : ∀ a, a < 512 → ((nI a ||| (nI a <<< (1 &&& 31))) ||| (nI a >>> (1 &&& 31))) = nI (a ||| 2 * a ||| a / 2) := by decide +kernel
theorem sh1 : ∀ k, k < 9 → ((1 : Int32) <<< (nI k &&& 31)) = nI (2 ^ k) := by decide +kernel
theorem mk_tb (f : Nat → Bool) (n k : Nat) : (mk f n).testBit k = (decide (k < n) && f k) := by
  by_cases h : k < n
  · have := mk_bit f n k h
    rw [Nat.testBit_eq_decide_div_mod_eq, this]
    cases f k <;> simp [h]
  · rw [Nat.testBit_lt_two_pow (Nat.lt_of_lt_of_le (mk_lt f n) (Nat.pow_le_pow_right (by omega) (by omega)))]
    simp [h]
theorem pl_z (D : Nat → Nat) (t a : Nat) (ha : a < 9) : 2 ^ a &&& mk (fun k => sd_dark D k t) 9 = pl D t a 0 := by
  apply Nat.eq_of_testBit_eq
  intro k
  unfold pl
  rw [Nat.testBit_and, mk_tb, mk_tb, Nat.testBit_two_pow, wc_z]
  by_cases c : k = a
  · subst c
    cases sd_dark D k t <;> simp [ha]
  · have c' : ¬ a = k := fun z => c z.symm
    simp [c, c']
theorem pl_s (D : Nat → Nat) (t a i : Nat) (hd : ∀ y, sd_dark D 9 y = false) (h9 : wc D t a i 9 = 0) : (pl D t a i ||| 2 * pl D t a i ||| pl D t a i / 2) &&& mk (fun k => sd_dark D k (t + (i + 1))) 9 = pl D t a (i + 1) := by
  apply Nat.eq_of_testBit_eq
  intro k
  unfold pl
  rw [Nat.testBit_and, Nat.testBit_or, Nat.testBit_or, mk_tb, mk_tb, mk_tb]
  have e1 : (2 * mk (fun k => decide (0 < wc D t a i k)) 9).testBit k = (decide (1 ≤ k) && (decide (k - 1 < 9) && decide (0 < wc D t a i (k - 1)))) := by
    rw [show 2 * mk (fun k => decide (0 < wc D t a i k)) 9 = 2 ^ 1 * mk (fun k => decide (0 < wc D t a i k)) 9 from rfl, Nat.testBit_two_pow_mul, mk_tb]
  have e2 : (mk (fun k => decide (0 < wc D t a i k)) 9 / 2).testBit k = (decide (k + 1 < 9) && decide (0 < wc D t a i (k + 1))) := by
    rw [← Nat.testBit_succ, mk_tb]
  rw [e1, e2, wc_s]
  by_cases hk : k < 9
  · cases hdk : sd_dark D k (t + (i + 1))
    · simp
    · have e3 : (decide (k + 1 < 9) && decide (0 < wc D t a i (k + 1))) = decide (0 < wc D t a i (k + 1)) := by
        by_cases c : k + 1 < 9
        · simp [c]
        · have : k + 1 = 9 := by omega
          rw [this, h9]
          simp
      rw [e3]
      have e4 : (decide (1 ≤ k) && (decide (k - 1 < 9) && decide (0 < wc D t a i (k - 1)))) = decide (0 < lf (wc D t a i) k) := by
        unfold lf
        by_cases c : k = 0
        · subst c; simp
        · have c1 : 1 ≤ k := by omega
          have c2 : k - 1 < 9 := by omega
          simp [c, c1, c2]
      rw [e4]
      simp only [if_true, hk, decide_true, Bool.true_and, Bool.and_true]
      by_cases c1 : 0 < wc D t a i k <;> by_cases c2 : 0 < lf (wc D t a i) k <;> by_cases c3 : 0 < wc D t a i (k + 1) <;> simp [c1, c2, c3] <;> omega
  · simp [hk]
theorem pl_lt (D : Nat → Nat) (t a i : Nat) : pl D t a i < 512 := mk_lt _ 9
theorem s_beside {D : Nat → Nat} (h : sd_ok D) (t a i : Nat) : ∃ z, f_X10_beside (nI (pl D t a i)) = some z ∧ z &&& nI (mk (fun k => sd_dark D k (t + (i + 1))) 9) = nI (pl D t a (i + 1)) := by
  have hb := h.2.1
  unfold f_X10_beside
  rw [bes _ (pl_lt D t a i)]
  refine ⟨_, rfl, ?_⟩
  rw [nI_and, pl_s D t a i (fun y => sd_dark_out h (by omega)) (wc_out h t a i (by omega))]
