-- laws
def lwd (i : Nat) : Nat := (1000 + i) / 1000
def lpc (i : Nat) : Nat := (1000 + i) / 100 % 10
def lag (i : Nat) : Nat := (1000 + i) % 100
def lD (L i : Nat) : Nat → Nat := fun j => if j = 0 then L else if j = 1 then lwd i else if j = 2 then lpc i else if j = 3 then lag i else 0
abbrev lval (L i : Nat) : Prop := lwd i < L ∧ 1 ≤ lpc i ∧ lag i < 2 * (L - lwd i) * lpc i
theorem lD_ok {L i : Nat} (h1 : 2 ≤ L) (h2 : L ≤ 9) (h : lval L i) : sd_ok (lD L i) := by
  obtain ⟨a, b, c⟩ := h
  have w1 : 1 ≤ lwd i := by unfold lwd; omega
  have p9 : lpc i ≤ 9 := by unfold lpc; omega
  have a9 : lag i ≤ 99 := by unfold lag; omega
  exact ⟨h1, h2, w1, a, b, p9, a9, Or.inl rfl, Nat.zero_le _, Nat.zero_le _⟩
def al (f : Nat → Bool) : Nat → Bool
  | 0 => true
  | n + 1 => al f n && f n
theorem al_f {f : Nat → Bool} {j : Nat} (hj : f j = false) : ∀ n, j < n → al f n = false
  | 0, h => by omega
  | n + 1, h => by
    show (al f n && f n) = false
    by_cases c : j = n
    · subst c; rw [hj]; simp
    · rw [al_f hj n (by omega)]; rfl
def sfit (L : Nat) (sl sy sc : Nat → Int32) (i j : Nat) : Bool := decide (f_X11_coversBy (nI (lwd i)) (nI (lpc i)) (nI (lag i)) (sl j) (sy j) (nI L) = some (if sc j = 1 then 1 else 0))
def lfit (L c : Nat) (sl sy sc : Nat → Int32) (i : Nat) : Bool := decide (lval L i) && al (sfit L sl sy sc i) c
theorem cb_some {L i : Nat} (h1 : 2 ≤ L) (h2 : L ≤ 9) (h : lval L i) (l y : Int32) : ∃ b : Bool, f_X11_coversBy (nI (lwd i)) (nI (lpc i)) (nI (lag i)) l y (nI L) = some (b2 b) := by
  obtain ⟨a, b, c⟩ := h
  have p9 : lpc i ≤ 9 := by unfold lpc; omega
  unfold f_X11_coversBy f_X11_firstCovered
  simp only [rs_lt_eq]
  have e2 : (2 : Int32) * nI (L - lwd i) = nI (2 * (L - lwd i)) := pk_mul 2 (L - lwd i)
  rw [pk_sub (by omega), e2, if_neg (nI_ne0 (by omega) (by omega)), if_neg (nI_ne0 (by omega) (by omega))]
  have key : ∀ z : Int32, ∃ b : Bool, (if l < z then some (0 : Int32) else if (z + nI (lwd i)) ≤ l then some 0 else some 1) = some (b2 b) := by
    intro z
    split
    · exact ⟨false, rfl⟩
    · split
      · exact ⟨false, rfl⟩
      · exact ⟨true, rfl⟩
  split
  · exact key _
  · exact key _
theorem cv_eq {L i : Nat} (h2 : L ≤ 9) (h : lval L i) (l y : Int32) : f_X4_covers l y (nI L) (nI (lwd i)) (nI (lpc i)) (nI (lag i)) = f_X11_coversBy (nI (lwd i)) (nI (lpc i)) (nI (lag i)) l y (nI L) := by
  obtain ⟨a, b, c⟩ := h
  have p9 : lpc i ≤ 9 := by unfold lpc; omega
  unfold f_X4_covers f_X11_coversBy
  rw [s_firstAt_eq]
  · exact nI_nlt (a := lpc i) (b := 1) b (by omega)
  · rw [pk_sub (by omega)]
    exact nI_le (a := 1) (by omega) (by omega)
theorem s_isLaw {L c i N : Nat} (h1 : 2 ≤ L) (h2 : L ≤ 9) (h : lval L i) (hc : c ≤ 8) (hN : 20 < N) (sl sy sc : Nat → Int32) : f_X11_isLaw N (nI (lwd i)) (nI (lpc i)) (nI (lag i)) (nI L) (nI c) sl sy sc = some (b2 (al (sfit L sl sy sc i) c)) := by
  unfold f_X11_isLaw
  have e : rs_l2 (f_X11_isLaw_L6 (nI c) (nI (lwd i)) (nI (lpc i)) (nI (lag i)) sl sy (nI L) sc) N 1 0 = some (b2 (al (sfit L sl sy sc i) c)) := by
    unfold rs_l2
    refine rs_loop_run (fun j => (b2 (al (sfit L sl sy sc i) j), nI j)) c rfl (by omega) ?_ ?_
    · intro j hj
      show f_X11_isLaw_L6 _ _ _ _ _ _ _ _ (b2 (al (sfit L sl sy sc i) j)) (nI j) = some (Sum.inl (b2 (al (sfit L sl sy sc i) j && sfit L sl sy sc i j), nI (j + 1)))
      unfold f_X11_isLaw_L6
      obtain ⟨b, hb⟩ := cb_some h1 h2 h (sl j) (sy j)
      have hs : sfit L sl sy sc i j = decide (b2 b = if sc j = 1 then 1 else 0) := by
        unfold sfit
        rw [hb]
        by_cases c : b2 b = if sc j = 1 then 1 else 0
        · rw [c]; simp
        · simp [c]
      rw [if_neg (nI_ge (by omega) (by omega)), if_neg (nI_in (c := j) (N := 8) (by omega) (by omega)), if_neg (nI_in (c := j) (N := 8) (by omega) (by omega)), nI_clamp (n := j) (by omega), hb, rs_b1_some, if_neg (gI (c := j) (N := 8) (by omega) (by omega)), hs, nI_1]
      cases al (sfit L sl sy sc i) j with
      | false => rfl
      | true =>
        by_cases c1 : sc j = 1
        · rw [if_pos c1, if_pos c1]
          cases b <;> rfl
        · rw [if_neg c1, if_neg c1]
          cases b <;> rfl
    · show f_X11_isLaw_L6 _ _ _ _ _ _ _ _ (b2 (al (sfit L sl sy sc i) c)) (nI c) = _
      unfold f_X11_isLaw_L6
      rw [if_pos (nI_le (Nat.le_refl _) (by omega))]
  rw [e, rs_b1_some, if_pos (b2_nar _)]
theorem s_fit {L c i N : Nat} (h1 : 2 ≤ L) (h2 : L ≤ 9) (h : lval L i) (hc : c ≤ 8) (hN : 20 < N) {sl sy sc xl xy xc : Nat → Int32} (el : ∀ j, j < 8 → xl j = sl j) (ey : ∀ j, j < 8 → xy j = sy j) (ec : ∀ j, j < 8 → xc j = sc j) :
    f_X5_fit N (nI c) xl xy (nI L) (nI (lwd i)) (nI (lpc i)) (nI (lag i)) xc = some (b2 (al (sfit L sl sy sc i) c)) := by
  unfold f_X5_fit rs_l1
  obtain ⟨r, q1, q2⟩ := rs_loop_inv (body := fun s : Int32 => f_X5_fit_L2 (nI c) xl xy (nI L) (nI (lwd i)) (nI (lpc i)) (nI (lag i)) xc s) (fun j s => s = nI j ∧ al (sfit L sl sy sc i) j = true) (fun r => rs_m0 (some r) (some 1) = some (b2 (al (sfit L sl sy sc i) c))) c (by
    rintro j s hj ⟨rfl, q2⟩
    unfold f_X5_fit_L2
    by_cases cc : c ≤ j
    · have : j = c := by omega
      subst this
      rw [if_pos (nI_le cc (by omega)), q2]
      exact Or.inr ⟨_, rfl, rfl⟩
    · obtain ⟨b, hb⟩ := cb_some h1 h2 h (sl j) (sy j)
      have hs : sfit L sl sy sc i j = decide (b2 b = if sc j = 1 then 1 else 0) := by
        unfold sfit
        rw [hb]
        by_cases c : b2 b = if sc j = 1 then 1 else 0
        · rw [c]; simp
        · simp [c]
      rw [if_neg (nI_ge (by omega) (by omega)), s_atA xl (by omega) (by omega), rs_b1_some, s_atA xy (by omega) (by omega), rs_b1_some, s_atA xc (by omega) (by omega), el j (by omega), ey j (by omega), ec j (by omega), cv_eq h2 h, hb, rs_b1_some, rs_b1_some, nI_1]
      have e3 : (if sc j = 1 then some (1 : Int32) else some 0) = some (if sc j = 1 then 1 else 0) := by split <;> rfl
      rw [e3, rs_b1_some]
      by_cases ce : b2 b = if sc j = 1 then 1 else 0
      · rw [if_pos ce]
        refine Or.inl ⟨_, rfl, ⟨rfl, ?_⟩, by omega⟩
        show (al (sfit L sl sy sc i) j && sfit L sl sy sc i j) = true
        rw [q2, hs, decide_eq_true ce]
        rfl
      · rw [if_neg ce]
        refine Or.inr ⟨_, rfl, ?_⟩
        rw [al_f (f := sfit L sl sy sc i) (j := j) (by rw [hs, decide_eq_false ce]) c (by omega)]
        rfl) N 0 0 (by omega) (by omega) ⟨rfl, rfl⟩
  rw [q1]
  exact q2
def lcn (fit : Nat → Bool) (n : Nat) : Nat := sm (fun i => if fit i then 1 else 0) n
def lcv (fit : Nat → Bool) (cv : Nat → Nat → Nat) (n k : Nat) : Nat := sm (fun i => if fit i then cv i k else 0) n
def lwr (fit : Nat → Bool) (x : Int32) : Nat → Int32
  | 0 => -6
  | n + 1 => if fit n ∧ nI (lcn fit n) = x then nI (1000 + n) else lwr fit x n
theorem lcn_s (fit : Nat → Bool) (n : Nat) : lcn fit (n + 1) = lcn fit n + if fit n then 1 else 0 := rfl
theorem lcv_s (fit : Nat → Bool) (cv : Nat → Nat → Nat) (n k : Nat) : lcv fit cv (n + 1) k = lcv fit cv n k + if fit n then cv n k else 0 := rfl
theorem lwr_s (fit : Nat → Bool) (x : Int32) (n : Nat) : lwr fit x (n + 1) = if fit n ∧ nI (lcn fit n) = x then nI (1000 + n) else lwr fit x n := rfl
theorem lcn_k {fit : Nat → Bool} {a : Nat} : ∀ d, (∀ i, a ≤ i → i < a + d → fit i = false) → lcn fit (a + d) = lcn fit a
  | 0, _ => rfl
  | d + 1, h => by
    show lcn fit (a + d + 1) = _
    rw [lcn_s, h (a + d) (by omega) (by omega), lcn_k d (fun i h1 h2 => h i h1 (by omega))]
    rfl
theorem lcv_k {fit : Nat → Bool} {cv : Nat → Nat → Nat} {a k : Nat} : ∀ d, (∀ i, a ≤ i → i < a + d → fit i = false) → lcv fit cv (a + d) k = lcv fit cv a k
  | 0, _ => rfl
  | d + 1, h => by
    show lcv fit cv (a + d + 1) k = _
    rw [lcv_s, h (a + d) (by omega) (by omega), lcv_k d (fun i h1 h2 => h i h1 (by omega))]
    rfl
theorem lwr_k {fit : Nat → Bool} {x : Int32} {a : Nat} : ∀ d, (∀ i, a ≤ i → i < a + d → fit i = false) → lwr fit x (a + d) = lwr fit x a
  | 0, _ => rfl
  | d + 1, h => by
    show lwr fit x (a + d + 1) = _
    rw [lwr_s, h (a + d) (by omega) (by omega), lwr_k d (fun i h1 h2 => h i h1 (by omega)), if_neg (fun z => by cases z.1)]
def lST (fit : Nat → Bool) (cv : Nat → Nat → Nat) (x : Int32) (n : Nat) (f : Nat → Int32) (c l : Int32) : Prop := (∀ k, k < 9 → f k = nI (lcv fit cv n k)) ∧ c = nI (lcn fit n) ∧ l = lwr fit x n
theorem lST_k {fit : Nat → Bool} {cv : Nat → Nat → Nat} {x : Int32} {a b : Nat} {f : Nat → Int32} {c l : Int32} (hab : a ≤ b) (h : ∀ i, a ≤ i → i < b → fit i = false) (hs : lST fit cv x a f c l) : lST fit cv x b f c l := by
  obtain ⟨d, rfl⟩ : ∃ d, b = a + d := ⟨b - a, by omega⟩
  obtain ⟨h1, h2, h3⟩ := hs
  exact ⟨fun k hk => by rw [h1 k hk, lcv_k d h], by rw [h2, lcn_k d h], by rw [h3, lwr_k d h]⟩
-- the class: the lands covered in a year
theorem s_ctc {L i y N : Nat} (h1 : 2 ≤ L) (h2 : L ≤ 9) (h : lval L i) (hy : y < 2 ^ 24) (hN : 20 < N) {f : Nat → Int32} {g : Nat → Nat} (hf : ∀ k, k < 9 → f k = nI (g k)) :
    ∃ f2, rs_b1 (f_X4_firstAt (nI y) (nI L) (nI (lwd i)) (nI (lpc i)) (nI (lag i))) (fun (x117 : Int32) => rs_b1 (f_X1_countCovered N x117 (nI (lwd i)) f) (fun (f119 : (Nat → Int32)) => some f119)) = some f2 ∧ ∀ k, k < 9 → f2 k = nI (g k + if sd_cov (lD L i) k y then 1 else 0) := by
  have hd := lD_ok h1 h2 h
  have hf0 := sd_first_le hd y
  have e0 : f_X4_firstAt (nI y) (nI L) (nI (lwd i)) (nI (lpc i)) (nI (lag i)) = some (nI (sd_first (lD L i) y)) := s_firstAt hd hy
  obtain ⟨a, b, c⟩ := h
  have hf1 : sd_first (lD L i) y ≤ L - lwd i := hf0
  rw [e0, rs_b1_some]
  unfold f_X1_countCovered rs_l2
  obtain ⟨r, q1, q2⟩ := rs_loop_inv (body := fun s : (Nat → Int32) × Int32 => f_X1_countCovered_L2 (nI (sd_first (lD L i) y)) (nI (lwd i)) s.1 s.2) (fun j s => s.2 = nI (sd_first (lD L i) y + j) ∧ ∀ k, k < 9 → s.1 k = nI (g k + if sd_first (lD L i) y ≤ k ∧ k < sd_first (lD L i) y + j then 1 else 0)) (fun r => ∀ k, k < 9 → r k = nI (g k + if sd_first (lD L i) y ≤ k ∧ k < sd_first (lD L i) y + lwd i then 1 else 0)) (lwd i) (by
    rintro j ⟨u, x⟩ hj ⟨q1, q2⟩
    dsimp only at q1 q2 ⊢
    subst q1
    unfold f_X1_countCovered_L2
    rw [nI_add]
    by_cases cc : lwd i ≤ j
    · have : j = lwd i := by omega
      subst this
      rw [if_pos (nI_le (by omega) (by omega))]
      exact Or.inr ⟨_, rfl, q2⟩
    · rw [if_neg (nI_ge (by omega) (by omega)), s_atA u (by omega) (by omega), rs_b1_some, s_putA u (by omega) (by omega), rs_b1_some, q2 _ (by omega), nI_1, nI_1]
      refine Or.inl ⟨_, rfl, ⟨rfl, ?_⟩, by omega⟩
      intro k hk
      dsimp only
      by_cases ck : k = sd_first (lD L i) y + j
      · subst ck
        rw [pk_us, if_neg (by omega), if_pos (by omega)]
      · rw [pk_un ck, q2 k hk]
        by_cases c3 : sd_first (lD L i) y ≤ k ∧ k < sd_first (lD L i) y + j
        · rw [if_pos c3, if_pos (by omega)]
        · rw [if_neg c3, if_neg (by omega)]) N 0 (f, nI (sd_first (lD L i) y)) (by omega) (by omega) ⟨rfl, fun k hk => by dsimp only; rw [hf k hk, if_neg (by omega), Nat.add_zero]⟩
  rw [q1]
  refine ⟨r, rfl, fun k hk => ?_⟩
  rw [q2 k hk]
  have ec : sd_cov (lD L i) k y = decide (sd_first (lD L i) y ≤ k ∧ k < sd_first (lD L i) y + lwd i) := by
    unfold sd_cov
    have e1 : lD L i 1 = lwd i := rfl
    rw [e1]
    by_cases c1 : sd_first (lD L i) y ≤ k <;> by_cases c2 : k < sd_first (lD L i) y + lwd i <;> simp [c1, c2]
  rw [ec]
  by_cases c3 : sd_first (lD L i) y ≤ k ∧ k < sd_first (lD L i) y + lwd i
  · rw [if_pos c3, decide_eq_true c3]; rfl
  · rw [if_neg c3, decide_eq_false c3]; rfl
def cvm (L : Nat) (p3 : Int32) (cv : Nat → Nat → Nat) : Prop := (p3 = -1 ∧ ∀ i k, cv i k = 0) ∨ (∃ y, y ≤ 99999 ∧ p3 = nI y ∧ ∀ i k, cv i k = if sd_cov (lD L i) k y then 1 else 0)
theorem s_takeAges {L c w p N : Nat} (h1 : 2 ≤ L) (h2 : L ≤ 9) (hw : 1 ≤ w) (hw2 : w < L) (hp : 1 ≤ p) (hp2 : p ≤ 9) (hc : c ≤ 8) (hN : 200 < N) {sl sy sc xl xy xc : Nat → Int32} (el : ∀ j, j < 8 → xl j = sl j) (ey : ∀ j, j < 8 → xy j = sy j) (ec : ∀ j, j < 8 → xc j = sc j)
    {cv : Nat → Nat → Nat} {p3 x : Int32} (hm : cvm L p3 cv) {f : Nat → Int32} {c0 l0 a0 : Int32} (hS : lST (lfit L c sl sy sc) cv x (1000 * w + 100 * p - 1000) f c0 l0) :
    ∃ f2 c2 l2 a2, f_X1_takeAges N x p3 c0 l0 (nI L) (nI w) (nI p) a0 (nI c) xl xy xc f = some (c2, l2, a2, f2) ∧ lST (lfit L c sl sy sc) cv x (1000 * w + 100 * (p + 1) - 1000) f2 c2 l2 := by
  unfold f_X1_takeAges f_X4_turn
  have e2 : (2 : Int32) * nI (L - w) = nI (2 * (L - w)) := pk_mul 2 (L - w)
  have hb : 2 * (L - w) * p ≤ 2 * (L - w) * 9 := Nat.mul_le_mul_left _ hp2
  rw [rs_b1_some, pk_sub (by omega), e2, pk_mul, rs_lt_eq]
  have e3 : (if 100 < nI (2 * (L - w) * p) then (100 : Int32) else nI (2 * (L - w) * p)) = nI (if 100 < 2 * (L - w) * p then 100 else 2 * (L - w) * p) := by
    by_cases c : 100 < 2 * (L - w) * p
    · rw [if_pos (show (100 : Int32) < nI (2 * (L - w) * p) from nI_lt (a := 100) c (by omega)), if_pos c]; rfl
    · rw [if_neg (show ¬ (100 : Int32) < nI (2 * (L - w) * p) from nI_nlt (a := 100) (by omega) (by omega)), if_neg c]
  rw [e3]
  generalize hA : (if 100 < 2 * (L - w) * p then 100 else 2 * (L - w) * p) = A
  have hA1 : A ≤ 100 ∧ A ≤ 2 * (L - w) * p ∧ (A = 100 ∨ A = 2 * (L - w) * p) := by
    rw [← hA]; split <;> omega
  unfold rs_l5
  obtain ⟨r, q1, q2⟩ := rs_loop_inv (body := fun s : (Nat → Int32) × Int32 × Int32 × Int32 × Int32 => f_X1_takeAges_L25 N (nI A) (nI c) xl xy (nI L) (nI w) (nI p) xc x p3 s.1 s.2.1 s.2.2.1 s.2.2.2.1 s.2.2.2.2) (fun j s => s.2.2.2.2 = nI j ∧ lST (lfit L c sl sy sc) cv x (1000 * w + 100 * p - 1000 + j) s.1 s.2.1 s.2.2.1) (fun r => lST (lfit L c sl sy sc) cv x (1000 * w + 100 * p - 1000 + A) r.1 r.2.1 r.2.2.1) A (by
    rintro j ⟨u, x1, x2, x3, x4⟩ hj ⟨q1, q2⟩
    dsimp only at q1 q2 ⊢
    subst q1
    unfold f_X1_takeAges_L25
    by_cases cc : A ≤ j
    · have : j = A := by omega
      subst this
      rw [if_pos (nI_le cc (by omega))]
      exact Or.inr ⟨_, rfl, q2⟩
    · generalize hi : 1000 * w + 100 * p - 1000 + j = i at q2
      have w' : lwd i = w := by unfold lwd; omega
      have p' : lpc i = p := by unfold lpc; omega
      have a' : lag i = j := by unfold lag; omega
      have hv : lval L i := by
        unfold lval
        rw [w', p', a']
        exact ⟨hw2, hp, by omega⟩
      have hfit := s_fit h1 h2 hv hc (N := N) (by omega) el ey ec
      rw [w', p', a'] at hfit
      rw [if_neg (nI_ge (by omega) (by omega)), hfit, rs_b1_some, nI_1]
      obtain ⟨t1, t2, t3⟩ := q2
      subst t2 t3
      have hlf : lfit L c sl sy sc i = al (sfit L sl sy sc i) c := by
        unfold lfit
        rw [decide_eq_true hv]; rfl
      rw [show 1000 * w + 100 * p - 1000 + (j + 1) = i + 1 by omega]
      cases hal : al (sfit L sl sy sc i) c with
      | false =>
        have hff : lfit L c sl sy sc i = false := hlf.trans hal
        refine Or.inl ⟨(u, nI (lcn (lfit L c sl sy sc) i), lwr (lfit L c sl sy sc) x i, nI j, nI (j + 1)), rfl, ⟨rfl, ?_⟩, by omega⟩
        exact lST_k (by omega) (fun z z1 z2 => by
          have : z = i := by omega
          rw [this]; exact hff) ⟨t1, rfl, rfl⟩
      | true =>
        have hft : lfit L c sl sy sc i = true := hlf.trans hal
        rw [if_neg (show ¬ b2 true = 0 by decide)]
        have e5 : (if nI (lcn (lfit L c sl sy sc) i) = x then rs_lt ((((1000 : Int32) * nI w) + ((100 : Int32) * nI p)) + nI j) (fun (x121 : Int32) => some x121) else some (lwr (lfit L c sl sy sc) x i)) = some (lwr (lfit L c sl sy sc) x (i + 1)) := by
          rw [lwr_s, hft]
          have e6 : (((1000 : Int32) * nI w) + ((100 : Int32) * nI p)) + nI j = nI (1000 + i) := by
            rw [show (1000 : Int32) = nI 1000 from rfl, show (100 : Int32) = nI 100 from rfl, pk_mul, pk_mul, nI_add, nI_add, show 1000 * w + 100 * p + j = 1000 + i by omega]
          rw [rs_lt_eq, e6]
          by_cases c5 : nI (lcn (lfit L c sl sy sc) i) = x
          · rw [if_pos c5, if_pos ⟨rfl, c5⟩]
          · rw [if_neg c5, if_neg (fun z => c5 z.2)]
        rw [e5, rs_b1_some]
        have e7 : ∃ f2, (if p3 = (-1) then some u else rs_b1 (f_X4_firstAt p3 (nI L) (nI w) (nI p) (nI j)) (fun (x117 : Int32) => rs_b1 (f_X1_countCovered N x117 (nI w) u) (fun (f119 : (Nat → Int32)) => some f119))) = some f2 ∧ ∀ k, k < 9 → f2 k = nI (lcv (lfit L c sl sy sc) cv (i + 1) k) := by
          rcases hm with ⟨m1, m2⟩ | ⟨y, m1, m2, m3⟩
          · rw [if_pos m1]
            refine ⟨u, rfl, fun k hk => ?_⟩
            rw [t1 k hk, lcv_s, hft, m2]
            rfl
          · rw [m2, if_neg (by
              intro z
              have z1 := congrArg Int32.toInt z
              rw [nI_toInt (by omega)] at z1
              have z2 : (-1 : Int32).toInt = -1 := rfl
              omega)]
            have := s_ctc h1 h2 hv (y := y) (N := N) (by omega) (by omega) t1
            rw [w', p', a'] at this
            obtain ⟨f2, k1, k2⟩ := this
            refine ⟨f2, k1, fun k hk => ?_⟩
            rw [k2 k hk, lcv_s, hft, m3]
            rfl
        obtain ⟨f2, k1, k2⟩ := e7
        rw [k1, rs_b1_some, rs_lt_eq, nI_1, rs_b3_some]
        refine Or.inl ⟨_, rfl, ⟨rfl, k2, ?_, rfl⟩, by omega⟩
        dsimp only
        rw [lcn_s, hft]
        rfl) N 0 (f, c0, l0, a0, 0) (by omega) (by omega) ⟨rfl, by dsimp only; rw [Nat.add_zero]; exact hS⟩
  obtain ⟨r1, r2, r3, r4⟩ := r
  rw [q1, rs_b4_some]
  refine ⟨r1, r2, r3, r4, rfl, ?_⟩
  refine lST_k (by omega) ?_ q2
  intro i i1 i2
  have w' : lwd i = w := by unfold lwd; omega
  have p' : lpc i = p := by unfold lpc; omega
  have a' : lag i = i - (1000 * w + 100 * p - 1000) := by unfold lag; omega
  unfold lfit
  have : ¬ lval L i := by
    unfold lval
    rw [w', p', a']
    intro z
    have := z.2.2
    omega
  rw [decide_eq_false this]
  rfl
