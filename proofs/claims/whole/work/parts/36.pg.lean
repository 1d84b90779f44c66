def fd_t (V : Nat → Nat → Nat) (k : Nat) (l : Bool) : Nat := V 2 k + (if l then V 0 k else 0)
def fd_h (V : Nat → Nat → Nat) (k : Nat) (l : Bool) : Bool := decide (fd_t V k l < V 1 k)
def fd_s (V : Nat → Nat → Nat) (k : Nat) (l : Bool) : Nat := if fd_t V k l < V 1 k then 0 else if fd_t V k l - V 1 k ≤ V 3 k then fd_t V k l - V 1 k else V 3 k
theorem fd_s_le {V : Nat → Nat → Nat} (k : Nat) (l : Bool) : fd_s V k l ≤ V 3 k := by
  unfold fd_s
  split
  · omega
  · split <;> omega
theorem i_sar (a b c : Int32) : a - b + c = a + c - b := by grind
theorem s_feed {V : Nat → Nat → Nat} (hV : vok V) {f : Nat → Int32} (hX : XS V f) {k : Nat} (hk : k < 9) (l : Bool) : f_X6_feed (nI k) (b2 l) f = some (b2 (fd_h V k l), upd f (4 * k + 2) (nI (fd_s V k l))) := by
  obtain ⟨v1, v2, v3, v4⟩ := hV k hk
  unfold f_X6_feed
  rw [s_of2 hX hk, rs_b1_some, s_of1 hX hk, rs_b1_some, s_of0 hX hk, s_of3 hX hk]
  have e : (if b2 l = 0 then some 0 else rs_b1 (some (nI (V 0 k))) (fun (x14 : Int32) => some x14)) = some (nI (if l then V 0 k else 0)) := by
    cases l <;> rfl
  rw [e, rs_b1_some]
  simp only [rs_lt_eq, rs_b1_some]
  rw [i_sar, nI_add]
  have et : V 2 k + (if l then V 0 k else 0) = fd_t V k l := rfl
  rw [et]
  have ht : fd_t V k l ≤ 119 := by unfold fd_t; split <;> omega
  rw [s_put2 f hk]
  simp only [rs_b1_some]
  by_cases c : fd_t V k l < V 1 k
  · have hneg : (nI (fd_t V k l) - nI (V 1 k)).toInt = (fd_t V k l : Int) - V 1 k := pk_sub_toInt (by omega) (by omega)
    have c1 : ¬ (0 : Int32) ≤ nI (fd_t V k l) - nI (V 1 k) := by
      rw [pn_le, hneg]
      have : (0 : Int32).toInt = 0 := rfl
      omega
    have c2 : ¬ nI (V 3 k) < nI (fd_t V k l) - nI (V 1 k) := by
      rw [pn_lt, hneg, nI_toInt (by omega)]
      omega
    have c3 : ¬ (0 : Int32) < nI (fd_t V k l) - nI (V 1 k) := by
      rw [pn_lt, hneg]
      have : (0 : Int32).toInt = 0 := rfl
      omega
    rw [if_neg c1, if_neg c2, if_neg c3]
    have e1 : fd_h V k l = true := by unfold fd_h; simp; exact c
    have e2 : fd_s V k l = 0 := by unfold fd_s; rw [if_pos c]
    rw [e1, e2]
    rfl
  · rw [pk_sub (by omega)]
    have e1 : fd_h V k l = false := by unfold fd_h; simp; omega
    rw [if_pos (nI_pos' (by omega)), e1]
    have e2 : (if (0 : Int32) < (if nI (V 3 k) < nI (fd_t V k l - V 1 k) then nI (V 3 k) else nI (fd_t V k l - V 1 k)) then (if nI (V 3 k) < nI (fd_t V k l - V 1 k) then nI (V 3 k) else nI (fd_t V k l - V 1 k)) else 0) = nI (fd_s V k l) := by
      have e3 : (if nI (V 3 k) < nI (fd_t V k l - V 1 k) then nI (V 3 k) else nI (fd_t V k l - V 1 k)) = nI (fd_s V k l) := by
        unfold fd_s
        rw [if_neg c]
        by_cases c4 : fd_t V k l - V 1 k ≤ V 3 k
        · rw [if_neg (nI_nlt c4 (by omega)), if_pos c4]
        · rw [if_pos (nI_lt (by omega) (by omega)), if_neg c4]
      rw [e3]
      have := fd_s_le (V := V) k l
      by_cases c5 : 0 < fd_s V k l
      · rw [if_pos (show (0 : Int32) < nI (fd_s V k l) from nI_lt (a := 0) c5 (by omega))]
      · have : fd_s V k l = 0 := by omega
        rw [this]
        rfl
    rw [e2]
    rfl
theorem s_eats {V : Nat → Nat → Nat} (hV : vok V) {f : Nat → Int32} (hM : MS V f) {k : Nat} (hk : k < 9) (l : Bool) : f_X11_eats (nI k) (b2 l) f = some (b2 (fd_h V k l), upd f (9 * 2 + k) (nI (fd_s V k l))) := by
  obtain ⟨v1, v2, v3, v4⟩ := hV k hk
  unfold f_X11_eats
  rw [s_at2, rs_b1_some, s_at0, s_at1, s_at3]
  simp only [rs_b1_some, rs_lt_eq]
  rw [if_neg (nI_in (c := 9 * 2 + k) (N := 36) (by omega) (by omega)), nI_clamp (n := 9 * 2 + k) (by omega), nI_clamp (n := 9 * 0 + k) (by omega), nI_clamp (n := 9 * 1 + k) (by omega), nI_clamp (n := 9 * 3 + k) (by omega), hM k hk 2 (by omega), hM k hk 0 (by omega), hM k hk 1 (by omega), hM k hk 3 (by omega)]
  simp only [if_neg (gI (c := 9 * 0 + k) (N := 36) (by omega) (by omega)), if_neg (gI (c := 9 * 1 + k) (N := 36) (by omega) (by omega)), if_neg (gI (c := 9 * 3 + k) (N := 36) (by omega) (by omega)), if_neg (gI (c := 9 * 2 + k) (N := 36) (by omega) (by omega))]
  have e : (if b2 l = 0 then some 0 else some (nI (V 0 k))) = some (nI (if l then V 0 k else 0)) := by
    cases l <;> rfl
  rw [e, rs_b1_some, nI_add]
  have et : V 2 k + (if l then V 0 k else 0) = fd_t V k l := rfl
  rw [et]
  have ht : fd_t V k l ≤ 119 := by unfold fd_t; split <;> omega
  by_cases c : fd_t V k l < V 1 k
  · have e1 : fd_h V k l = true := by unfold fd_h; simp; exact c
    have e2 : fd_s V k l = 0 := by unfold fd_s; rw [if_pos c]
    rw [if_neg (nI_ge c (by omega)), rs_b1_some, e1, e2]
    rw [if_neg (show ¬ (1 : Int32) = 0 by decide), rs_b1_some, if_pos (nI_pos' (n := V 3 k) (by omega)), rs_b1_some]
    rfl
  · have e1 : fd_h V k l = false := by unfold fd_h; simp; omega
    rw [if_pos (nI_le (by omega) (by omega)), rs_b1_some, e1, if_pos rfl, rs_b1_some, pk_sub (by omega)]
    have e2 : (if nI (fd_t V k l - V 1 k) ≤ nI (V 3 k) then some (nI (fd_t V k l - V 1 k)) else some (nI (V 3 k))) = some (nI (fd_s V k l)) := by
      unfold fd_s
      rw [if_neg c]
      by_cases c4 : fd_t V k l - V 1 k ≤ V 3 k
      · rw [if_pos (nI_le c4 (by omega)), if_pos c4]
      · rw [if_neg (nI_ge (by omega) (by omega)), if_neg c4]
    rw [e2, rs_b1_some]
    rfl
-- dark lands as bits
def mk (f : Nat → Bool) : Nat → Nat
  | 0 => 0
  | n + 1 => mk f n + (if f n then 2 ^ n else 0)
theorem mk_lt (f : Nat → Bool) : ∀ n, mk f n < 2 ^ n
  | 0 => by simp [mk]
  | n + 1 => by
    have := mk_lt f n
    unfold mk
    rw [Nat.pow_succ]
    split <;> omega
theorem mk_bit (f : Nat → Bool) : ∀ n k, k < n → mk f n / 2 ^ k % 2 = if f k then 1 else 0
  | 0, k, h => by omega
  | n + 1, k, h => by
    have h2 := mk_lt f n
    by_cases hk : k = n
    · subst hk
      show (mk f k + (if f k then 2 ^ k else 0)) / 2 ^ k % 2 = _
      cases f k
      · simp
        rw [Nat.div_eq_of_lt h2]
      · simp
        rw [Nat.add_div_right _ (Nat.two_pow_pos k), Nat.div_eq_of_lt h2]
    · have ih := mk_bit f n k (by omega)
      show (mk f n + (if f n then 2 ^ n else 0)) / 2 ^ k % 2 = _
      rw [← ih]
      cases f n
      · simp
      · simp only [if_true]
        have e : (2 : Nat) ^ n = 2 ^ k * (2 * 2 ^ (n - k - 1)) := by
          rw [← Nat.pow_succ', ← Nat.pow_add]
          congr 1
          omega
        rw [e, Nat.add_mul_div_left _ _ (Nat.two_pow_pos k), Nat.add_mul_mod_self_left]
theorem mk_zero {f : Nat → Bool} : ∀ n, (∀ k, k < n → f k = false) → mk f n = 0
  | 0, _ => rfl
  | n + 1, h => by
    show mk f n + (if f n then 2 ^ n else 0) = 0
    rw [mk_zero n (fun k hk => h k (by omega)), h n (by omega)]
    rfl
theorem mk_ext {f : Nat → Bool} {a : Nat} : ∀ n, (∀ k, a ≤ k → k < a + n → f k = false) → mk f (a + n) = mk f a
  | 0, _ => rfl
  | n + 1, h => by
    show mk f (a + n) + (if f (a + n) then 2 ^ (a + n) else 0) = mk f a
    rw [mk_ext n (fun k h1 h2 => h k h1 (by omega)), h (a + n) (by omega) (by omega)]
    rfl
theorem bit_or : ∀ l, l < 9 → ∀ a, a < 2 ^ l → (nI a ||| ((1 : Int32) <<< (nI l &&& 31))) = nI (a + 2 ^ l) := by decide +kernel
theorem bit_sh : ∀ k, k < 9 → ∀ a, a < 512 → (((nI a >>> (nI k &&& 31)) &&& 1) = 0 ↔ a / 2 ^ k % 2 = 0) := by decide +kernel
theorem s_darkAt {D : Nat → Nat} (h : sd_ok D) {y N : Nat} (hy : y < 2 ^ 24) (hN : 20 < N) : f_X4_darkAt N (nI y) (nI (D 0)) (nI (D 1)) (nI (D 2)) (nI (D 3)) (nI (D 4)) (nI (D 5)) (nI (D 6)) = some (nI (mk (fun k => sd_dark D k y) 9)) := by
  have hf := sd_first_le h y
  unfold f_X4_darkAt
  rw [s_firstAt h hy, rs_b1_some]
  have hh := h
  obtain ⟨h0, h1, h2, h3, h4, h5, h6, h7, h8, h9⟩ := h
  have hcov : ∀ k, ¬ (sd_first D y ≤ k ∧ k < sd_first D y + D 1) → sd_dark D k y = false := by
    intro k hk
    unfold sd_dark sd_cov
    by_cases c : sd_first D y ≤ k
    · have : ¬ k < sd_first D y + D 1 := fun z => hk ⟨c, z⟩
      simp [this]
    · simp [c]
  have e : rs_l2 (f_X4_darkAt_L11 (nI (sd_first D y)) (nI (D 1)) (nI y) (nI (D 4)) (nI (D 5)) (nI (D 6))) N 0 (nI (sd_first D y)) = some (nI (mk (fun k => sd_dark D k y) 9)) := by
    unfold rs_l2
    refine rs_loop_run (fun i => (nI (mk (fun k => sd_dark D k y) (sd_first D y + i)), nI (sd_first D y + i))) (D 1) ?_ (by omega) ?_ ?_
    · show (0, nI (sd_first D y)) = (nI (mk (fun k => sd_dark D k y) (sd_first D y + 0)), nI (sd_first D y + 0))
      rw [Nat.add_zero, mk_zero _ (fun k hk => hcov k (by omega))]
      rfl
    · intro i hi
      show f_X4_darkAt_L11 _ _ _ _ _ _ (nI (mk (fun k => sd_dark D k y) (sd_first D y + i))) (nI (sd_first D y + i)) = _
      unfold f_X4_darkAt_L11
      have hm := mk_lt (fun k => sd_dark D k y) (sd_first D y + i)
      rw [nI_add, if_neg (nI_ge (by omega) (by omega)), s_hasSlit hh (by omega) hy, rs_b1_some, bit_or _ (by omega) _ hm, nI_1]
      have ed : sd_dark D (sd_first D y + i) y = !sd_slit D (sd_first D y + i) y := by
        unfold sd_dark sd_cov
        have c1 : sd_first D y ≤ sd_first D y + i := by omega
        have c2 : sd_first D y + i < sd_first D y + D 1 := by omega
        simp [c1, c2]
      show _ = some (Sum.inl (nI (mk (fun k => sd_dark D k y) (sd_first D y + i) + (if sd_dark D (sd_first D y + i) y then 2 ^ (sd_first D y + i) else 0)), _))
      rw [ed]
      cases sd_slit D (sd_first D y + i) y <;> rfl
    · show f_X4_darkAt_L11 _ _ _ _ _ _ (nI (mk (fun k => sd_dark D k y) (sd_first D y + D 1))) (nI (sd_first D y + D 1)) = _
      unfold f_X4_darkAt_L11
      rw [nI_add, if_pos (nI_le (Nat.le_refl _) (by omega))]
      have := mk_ext (f := fun k => sd_dark D k y) (a := sd_first D y + D 1) (9 - (sd_first D y + D 1)) (fun k hk _ => hcov k (by omega))
      rw [show sd_first D y + D 1 + (9 - (sd_first D y + D 1)) = 9 by omega] at this
      rw [this]
  rw [e]
  rfl
theorem s_bit {D : Nat → Nat} {y k : Nat} (hk : k < 9) : (((nI (mk (fun k => sd_dark D k y) 9) >>> (nI k &&& 31)) &&& 1) = 0) ↔ sd_dark D k y = false := by
  rw [bit_sh k hk _ (mk_lt _ 9), mk_bit _ 9 k hk]
  cases sd_dark D k y <;> simp
-- a year
def pyi (D : Nat → Nat) (V : Nat → Nat → Nat) (y i : Nat) : Nat → Nat → Nat := fun j k => if j = 2 ∧ k < i then fd_s V k (!sd_dark D k y) else V j k
def py (D : Nat → Nat) (V : Nat → Nat → Nat) (y : Nat) : Nat → Nat → Nat := pyi D V y (D 0)
def hg (D : Nat → Nat) (V : Nat → Nat → Nat) (y k : Nat) : Nat := if fd_h V k (!sd_dark D k y) then 1 else 0
def cn (D : Nat → Nat) (V : Nat → Nat → Nat) (y : Nat) : Nat := sm (hg D V y) (D 0)
theorem pyi_ok {D : Nat → Nat} {V : Nat → Nat → Nat} (hV : vok V) (y i : Nat) : vok (pyi D V y i) := by
  intro k hk
  obtain ⟨v1, v2, v3, v4⟩ := hV k hk
  unfold pyi
  refine ⟨by simp; exact v1, by simp; exact v2, by simp; exact v3, ?_⟩
  have := fd_s_le (V := V) k (!sd_dark D k y)
  by_cases c : k < i
  · simp [c]; exact this
  · simp [c]; exact v4
theorem pyi_at {D : Nat → Nat} {V : Nat → Nat → Nat} (y i j : Nat) : pyi D V y i j i = V j i := by
  unfold pyi
  rw [if_neg (by omega)]
theorem pyi_succ {D : Nat → Nat} {V : Nat → Nat → Nat} (y i : Nat) : vup (pyi D V y i) 2 i (fd_s V i (!sd_dark D i y)) = pyi D V y (i + 1) := by
  funext a b
  unfold vup pyi
  by_cases c : a = 2 ∧ b = i
  · obtain ⟨rfl, rfl⟩ := c
    rw [if_pos ⟨rfl, rfl⟩, if_pos ⟨rfl, by omega⟩]
  · rw [if_neg c]
    by_cases c2 : a = 2 ∧ b < i
    · rw [if_pos c2, if_pos ⟨c2.1, by omega⟩]
    · rw [if_neg c2, if_neg (by omega)]
theorem fd_h_pyi {D : Nat → Nat} {V : Nat → Nat → Nat} (y i : Nat) (l : Bool) : fd_h (pyi D V y i) i l = fd_h V i l := by
  unfold fd_h fd_t
  rw [pyi_at, pyi_at, pyi_at]
theorem fd_s_pyi {D : Nat → Nat} {V : Nat → Nat → Nat} (y i : Nat) (l : Bool) : fd_s (pyi D V y i) i l = fd_s V i l := by
  unfold fd_s fd_t
  rw [pyi_at, pyi_at, pyi_at, pyi_at]
theorem s_pyX {D : Nat → Nat} (h : sd_ok D) {V : Nat → Nat → Nat} (hV : vok V) {y N : Nat} (hy : y < 2 ^ 23) (hN : 20 < N) {f g : Nat → Int32} (hX : XS V f) {hu : Nat → Nat} (hg0 : ∀ k, k < 9 → g k = nI (hu k)) (ys hs : Nat) :
    ∃ f2 g2, f_X7_passYear N (nI y) (nI ys) (nI hs) (nI (D 0)) (nI (D 1)) (nI (D 2)) (nI (D 3)) (nI (D 4)) (nI (D 5)) (nI (D 6)) f g = some (nI (y + 1), nI (ys + 1), nI (hs + cn D V y), f2, g2) ∧ XS (py D V y) f2 ∧ ∀ k, k < 9 → g2 k = nI (hu k + if k < D 0 then hg D V y k else 0) := by
  have hb := h.2.1
  unfold f_X7_passYear
  rw [s_darkAt h (by omega) hN, rs_b1_some]
  unfold rs_l4
  obtain ⟨r, h1, h2⟩ := rs_loop_inv (body := fun s : (Nat → Int32) × (Nat → Int32) × Int32 × Int32 => f_X7_passYear_L14 (nI (D 0)) (nI (mk (fun k => sd_dark D k y) 9)) s.1 s.2.1 s.2.2.1 s.2.2.2) (fun i s => XS (pyi D V y i) s.1 ∧ (∀ k, k < 9 → s.2.1 k = nI (hu k + if k < i then hg D V y k else 0)) ∧ s.2.2.1 = nI (hs + sm (hg D V y) i) ∧ s.2.2.2 = nI i) (fun r => XS (py D V y) r.1 ∧ (∀ k, k < 9 → r.2.1 k = nI (hu k + if k < D 0 then hg D V y k else 0)) ∧ r.2.2 = nI (hs + cn D V y)) (D 0) (by
    rintro i ⟨a, b, c, d⟩ hi ⟨q1, q2, q3, q4⟩
    dsimp only at q1 q2 q3 q4 ⊢
    subst q3 q4
    unfold f_X7_passYear_L14
    by_cases hc : D 0 ≤ i
    · have : i = D 0 := by omega
      rw [if_pos (nI_le hc (by omega))]
      subst this
      exact Or.inr ⟨_, rfl, q1, q2, rfl⟩
    · rw [if_neg (nI_ge (by omega) (by omega))]
      have e1 : (if ((nI (mk (fun k => sd_dark D k y) 9) >>> (nI i &&& 31)) &&& 1) = 0 then some 1 else some 0) = some (b2 (!sd_dark D i y)) := by
        by_cases c : sd_dark D i y = false
        · rw [if_pos ((s_bit (by omega)).mpr c), c]
          rfl
        · rw [if_neg (fun z => c ((s_bit (by omega)).mp z))]
          have : sd_dark D i y = true := by simpa using c
          rw [this]
          rfl
      rw [e1, rs_b1_some, s_feed (pyi_ok hV y i) q1 (by omega), rs_b2_some, fd_h_pyi, fd_s_pyi]
      have hX2 : XS (pyi D V y (i + 1)) (upd a (4 * i + 2) (nI (fd_s V i (!sd_dark D i y)))) := by
        rw [← pyi_succ]
        exact XS_up q1 (by omega) (by omega)
      rw [s_atA b (n := 9) (by omega) (by omega), rs_b1_some, q2 i (by omega), s_putA b (n := 9) (by omega) (by omega), rs_b1_some, nI_1, nI_1, nI_1]
      simp only [rs_lt_eq]
      have hsucc : sm (hg D V y) (i + 1) = sm (hg D V y) i + hg D V y i := rfl
      cases c : fd_h V i (!sd_dark D i y) with
      | false =>
        have h0 : hg D V y i = 0 := by unfold hg; rw [c]; rfl
        refine Or.inl ⟨(upd a (4 * i + 2) (nI (fd_s V i (!sd_dark D i y))), b, nI (hs + sm (hg D V y) i), nI (i + 1)), rfl, ⟨hX2, ?_, ?_, rfl⟩, by omega⟩
        · intro k hk
          dsimp only
          rw [q2 k hk]
          by_cases hki : k = i
          · subst hki
            rw [if_neg (by omega), if_pos (by omega), h0]
          · by_cases hlt : k < i
            · rw [if_pos hlt, if_pos (by omega)]
            · rw [if_neg hlt, if_neg (by omega)]
        · dsimp only
          rw [hsucc, h0, Nat.add_zero]
      | true =>
        have h0 : hg D V y i = 1 := by unfold hg; rw [c]; rfl
        refine Or.inl ⟨(upd a (4 * i + 2) (nI (fd_s V i (!sd_dark D i y))), upd b i (nI ((hu i + if i < i then hg D V y i else 0) + 1)), nI (hs + sm (hg D V y) i + 1), nI (i + 1)), rfl, ⟨hX2, ?_, ?_, rfl⟩, by omega⟩
        · intro k hk
          dsimp only
          by_cases hki : k = i
          · subst hki
            rw [pk_us, if_neg (by omega), if_pos (by omega), h0]
          · rw [pk_un hki, q2 k hk]
            by_cases hlt : k < i
            · rw [if_pos hlt, if_pos (by omega)]
            · rw [if_neg hlt, if_neg (by omega)]
        · dsimp only
          rw [hsucc, h0, Nat.add_assoc]) N 0 (f, g, nI hs, 0) (by omega) (by omega) ⟨by
            have : pyi D V y 0 = V := by funext a b; unfold pyi; rw [if_neg (by omega)]
            rw [this]; exact hX, fun k hk => by dsimp only; rw [hg0 k hk, if_neg (by omega)]; rfl, rfl, rfl⟩
  obtain ⟨r1, r2, r3⟩ := r
  obtain ⟨w1, w2, w3⟩ := h2
  dsimp only at w1 w2 w3
  rw [h1, rs_b3_some, nI_1, nI_1]
  simp only [rs_lt_eq]
  exact ⟨r1, r2, by rw [w3], w1, w2⟩
def an (D : Nat → Nat) (V : Nat → Nat → Nat) (y : Nat) : Bool := decide (0 < cn D V y)
theorem s_pyM {D : Nat → Nat} (h : sd_ok D) {V : Nat → Nat → Nat} (hV : vok V) {y N : Nat} (hy : y < 2 ^ 23) (hN : 20 < N) {f g : Nat → Int32} (hX : MS V f) {hu : Nat → Nat} (hg0 : ∀ k, k < 9 → g k = nI (hu k)) (hs : Nat) :
    ∃ f2 g2, f_X11_passYear N (nI (D 0)) (nI (D 1)) (nI (D 2)) (nI (D 3)) (nI (D 4)) (nI (D 5)) (nI (D 6)) (nI y) (nI hs) f g = some (b2 (an D V y), nI (y + 1), nI (hs + cn D V y), f2, g2) ∧ MS (py D V y) f2 ∧ ∀ k, k < 9 → g2 k = nI (hu k + if k < D 0 then hg D V y k else 0) := by
  have hb := h.2.1
  unfold f_X11_passYear
  unfold rs_l5
  obtain ⟨r, h1, h2⟩ := rs_loop_inv (body := fun s : (Nat → Int32) × (Nat → Int32) × Int32 × Int32 × Int32 => f_X11_passYear_L4 (nI (D 0)) (nI y) (nI (D 1)) (nI (D 2)) (nI (D 3)) (nI (D 4)) (nI (D 5)) (nI (D 6)) s.1 s.2.1 s.2.2.1 s.2.2.2.1 s.2.2.2.2) (fun i s => MS (pyi D V y i) s.1 ∧ (∀ k, k < 9 → s.2.1 k = nI (hu k + if k < i then hg D V y k else 0)) ∧ s.2.2.1 = nI (hs + sm (hg D V y) i) ∧ s.2.2.2.1 = b2 (decide (0 < sm (hg D V y) i)) ∧ s.2.2.2.2 = nI i) (fun r => MS (py D V y) r.1 ∧ (∀ k, k < 9 → r.2.1 k = nI (hu k + if k < D 0 then hg D V y k else 0)) ∧ r.2.2.1 = nI (hs + cn D V y) ∧ r.2.2.2 = b2 (an D V y)) (D 0) (by
    rintro i ⟨a, b, c, z, d⟩ hi ⟨q1, q2, q3, q5, q4⟩
    dsimp only at q1 q2 q3 q4 q5 ⊢
    subst q3 q4 q5
    unfold f_X11_passYear_L4
    by_cases hc : D 0 ≤ i
    · have : i = D 0 := by omega
      rw [if_pos (nI_le hc (by omega))]
      subst this
      exact Or.inr ⟨_, rfl, q1, q2, rfl, rfl⟩
    · rw [if_neg (nI_ge (by omega) (by omega)), s_isLit h (by omega) (by omega), rs_b1_some, s_eats (pyi_ok hV y i) q1 (by omega), rs_b2_some, fd_h_pyi, fd_s_pyi]
      have hX2 : MS (pyi D V y (i + 1)) (upd a (9 * 2 + i) (nI (fd_s V i (!sd_dark D i y)))) := by
        rw [← pyi_succ]
        exact MS_up q1 (by omega) (by omega)
      have eb : ∀ b : Bool, (if b2 b = 0 then some (0 : Int32) else some 1) = some (b2 b) := fun b => by cases b <;> rfl
      have eb2 : ∀ b : Bool, b2 b = nI (if b then 1 else 0) := fun b => by cases b <;> rfl
      have ehg : nI (if fd_h V i (!sd_dark D i y) = true then 1 else 0) = nI (hg D V y i) := rfl
      rw [eb, rs_b1_some]
      simp only [rs_lt_eq, rs_b1_some]
      rw [if_neg (nI_in (by omega) (by omega)), nI_clamp (by omega), if_neg (gI (c := i) (N := 9) (by omega) (by omega)), q2 i (by omega), eb2 (fd_h V i (!sd_dark D i y)), ehg, nI_add, nI_add, nI_1]
      have hsucc : sm (hg D V y) (i + 1) = sm (hg D V y) i + hg D V y i := rfl
      have ean : (if b2 (decide (0 < sm (hg D V y) i)) = 0 then some (nI (hg D V y i)) else some 1) = some (b2 (decide (0 < sm (hg D V y) (i + 1)))) := by
        rw [hsucc]
        have hh : hg D V y i = 0 ∨ hg D V y i = 1 := by unfold hg; split <;> omega
        by_cases c : 0 < sm (hg D V y) i
        · have c2 : 0 < sm (hg D V y) i + hg D V y i := by omega
          simp only [c, c2, decide_true]
          rfl
        · have c3 : sm (hg D V y) i = 0 := by omega
          rcases hh with hh | hh
          · rw [c3, hh]; rfl
          · rw [c3, hh]; rfl
      rw [ean, rs_b1_some]
      refine Or.inl ⟨_, rfl, ⟨hX2, ?_, ?_, rfl, rfl⟩, by omega⟩
      · intro k hk
        dsimp only
        by_cases hki : k = i
        · subst hki
          rw [pk_us, if_neg (by omega), if_pos (by omega)]
          rfl
        · rw [pk_un hki, q2 k hk]
          by_cases hlt : k < i
          · rw [if_pos hlt, if_pos (by omega)]
          · rw [if_neg hlt, if_neg (by omega)]
      · dsimp only
        rw [hsucc, Nat.add_assoc]) N 0 (f, g, nI hs, 0, 0) (by omega) (by omega) ⟨by
            have : pyi D V y 0 = V := by funext a b; unfold pyi; rw [if_neg (by omega)]
            rw [this]; exact hX, fun k hk => by dsimp only; rw [hg0 k hk, if_neg (by omega)]; rfl, rfl, rfl, rfl⟩
  obtain ⟨r1, r2, r3, r4⟩ := r
  obtain ⟨w1, w2, w3, w4⟩ := h2
  dsimp only at w1 w2 w3 w4
  rw [h1, rs_b4_some, nI_1]
  simp only [rs_lt_eq]
  rw [w4, if_pos (b2_nar _)]
  exact ⟨r1, r2, by rw [w3], w1, w2⟩
