theorem lfit_no {L c : Nat} {sl sy sc : Nat → Int32} {i : Nat} (h : ¬ lval L i) : lfit L c sl sy sc i = false := by
  unfold lfit
  rw [decide_eq_false h]
  rfl
theorem lST_r {fit : Nat → Bool} {cv : Nat → Nat → Nat} {x : Int32} {a b : Nat} {f : Nat → Int32} {c l : Int32} (hab : a ≤ b) (h : ∀ i, a ≤ i → i < b → fit i = false) (hs : lST fit cv x b f c l) : lST fit cv x a f c l := by
  obtain ⟨d, rfl⟩ : ∃ d, b = a + d := ⟨b - a, by omega⟩
  obtain ⟨h1, h2, h3⟩ := hs
  exact ⟨fun k hk => by rw [h1 k hk, lcv_k d h], by rw [h2, lcn_k d h], by rw [h3, lwr_k d h]⟩
theorem s_take {L c N : Nat} (h1 : 2 ≤ L) (h2 : L ≤ 9) (hc : c ≤ 8) (hN : 200 < N) {sl sy sc xl xy xc : Nat → Int32} (el : ∀ j, j < 8 → xl j = sl j) (ey : ∀ j, j < 8 → xy j = sy j) (ec : ∀ j, j < 8 → xc j = sc j)
    {cv : Nat → Nat → Nat} {p3 : Int32} (x : Int32) (hm : cvm L p3 cv) (f : Nat → Int32) (t1 t2 t3 : Int32) :
    ∃ f2 c2 l2 a1 a2 a3, f_X1_take N x p3 f (nI L) t1 t2 t3 (nI c) xl xy xc = some (c2, l2, f2, nI L, a1, a2, a3) ∧ lST (lfit L c sl sy sc) cv x 8000 f2 c2 l2 := by
  unfold f_X1_take
  obtain ⟨g, g1, g2⟩ := s_clear (n := 9) (N := N) (by omega) (by omega) f
  rw [g1, rs_b1_some]
  have hS0 : lST (lfit L c sl sy sc) cv x 0 g 0 (-6) := ⟨g2, rfl, rfl⟩
  have hS1 : lST (lfit L c sl sy sc) cv x 100 g 0 (-6) := lST_k (by omega) (fun i i1 i2 => lfit_no (fun z => by
    have z1 := z.2.1
    unfold lpc at z1
    omega)) hS0
  unfold rs_l7
  obtain ⟨r, q1, q2⟩ := rs_loop_inv (body := fun s : (Nat → Int32) × Int32 × Int32 × Int32 × Int32 × Int32 × Int32 => f_X1_take_L35 N (nI L) x p3 (nI c) xl xy xc s.1 s.2.1 s.2.2.1 s.2.2.2.1 s.2.2.2.2.1 s.2.2.2.2.2.1 s.2.2.2.2.2.2) (fun j s => s.2.2.2.2.2.2 = nI (j + 1) ∧ lST (lfit L c sl sy sc) cv x (1000 * j + 100) s.1 s.2.1 s.2.2.1) (fun r => lST (lfit L c sl sy sc) cv x 8000 r.1 r.2.1 r.2.2.1) (L - 1) (by
    rintro j ⟨u, x1, x2, x3, x4, x5, x6⟩ hj ⟨k1, k2⟩
    dsimp only at k1 k2 ⊢
    subst k1
    unfold f_X1_take_L35
    by_cases cc : L ≤ j + 1
    · rw [if_pos (nI_le cc (by omega))]
      refine Or.inr ⟨_, rfl, ?_⟩
      have hj' : j + 1 = L := by omega
      by_cases c8 : L = 9
      · refine lST_r (b := 1000 * j + 100) (by omega) (fun i i1 i2 => lfit_no (fun z => ?_)) k2
        have z1 := z.1
        unfold lwd at z1
        omega
      · refine lST_k (a := 1000 * j + 100) (by omega) (fun i i1 i2 => lfit_no (fun z => ?_)) k2
        have z1 := z.1
        unfold lwd at z1
        omega
    · rw [if_neg (nI_ge (by omega) (by omega)), if_neg (show ¬ (8 : Int32) < nI (j + 1) from nI_nlt (a := 8) (by omega) (by omega))]
      unfold rs_l7
      obtain ⟨r, q1, q2⟩ := rs_loop_inv (body := fun s : (Nat → Int32) × Int32 × Int32 × Int32 × Int32 × Int32 × Int32 => f_X1_take_L57 N x p3 (nI L) (nI (j + 1)) (nI c) xl xy xc s.1 s.2.1 s.2.2.1 s.2.2.2.1 s.2.2.2.2.1 s.2.2.2.2.2.1 s.2.2.2.2.2.2) (fun p s => s.2.2.2.2.2.2 = nI (p + 1) ∧ lST (lfit L c sl sy sc) cv x (1000 * (j + 1) + 100 * (p + 1) - 1000) s.1 s.2.1 s.2.2.1) (fun r => lST (lfit L c sl sy sc) cv x (1000 * (j + 1)) r.1 r.2.1 r.2.2.1) 9 (by
        rintro p ⟨v, y1, y2, y3, y4, y5, y6⟩ hp ⟨k3, k4⟩
        dsimp only at k3 k4 ⊢
        subst k3
        unfold f_X1_take_L57
        by_cases c9 : p = 9
        · subst c9
          refine Or.inr ⟨_, rfl, ?_⟩
          dsimp only
          rw [show 1000 * (j + 1) = 1000 * (j + 1) + 100 * (9 + 1) - 1000 by omega]
          exact k4
        · rw [if_neg (show ¬ (9 : Int32) < nI (p + 1) from nI_nlt (a := 9) (by omega) (by omega))]
          obtain ⟨f2, c2, l2, a2, w1, w2⟩ := s_takeAges h1 h2 (w := j + 1) (p := p + 1) (by omega) (by omega) (by omega) (by omega) hc hN el ey ec hm (a0 := y5) k4
          rw [w1, rs_b4_some, nI_1]
          exact Or.inl ⟨_, rfl, ⟨rfl, w2⟩, by omega⟩) N 0 (u, x1, x2, x3, x4, x5, 1) (by omega) (by omega) ⟨rfl, by
            dsimp only
            rw [show 1000 * (j + 1) + 100 * (0 + 1) - 1000 = 1000 * j + 100 by omega]
            exact k2⟩
      obtain ⟨r1, r2, r3, r4, r5, r6⟩ := r
      rw [q1, rs_b6_some, nI_1]
      refine Or.inl ⟨_, rfl, ⟨rfl, ?_⟩, by omega⟩
      exact lST_k (by omega) (fun i i1 i2 => lfit_no (fun z => by
        have z1 := z.2.1
        unfold lpc at z1
        omega)) q2) N 0 (g, 0, -6, t1, t2, t3, 1) (by omega) (by omega) ⟨rfl, hS1⟩
  obtain ⟨r1, r2, r3, r4, r5, r6⟩ := r
  rw [q1, rs_b6_some]
  exact ⟨r1, r2, r3, r4, r5, r6, rfl, q2⟩
def cvy (L y : Nat) : Nat → Nat → Nat := fun i k => if sd_cov (lD L i) k y then 1 else 0
theorem s_goL142 {L i y N : Nat} (h1 : 2 ≤ L) (h2 : L ≤ 9) (h : lval L i) (hy : y < 2 ^ 24) (hN : 20 < N) {f : Nat → Int32} {g : Nat → Nat} (hf : ∀ k, k < 9 → f k = nI (g k)) :
    ∃ f2, rs_l2 (f_X11_goLaws_L142 (nI L) (nI (lwd i)) (nI (lpc i)) (nI (lag i)) (nI y)) N f 0 = some f2 ∧ ∀ k, k < 9 → f2 k = nI (g k + cvy L y i k) := by
  have hd := lD_ok h1 h2 h
  have hf0 := sd_first_le hd y
  have hf1 : sd_first (lD L i) y ≤ L - lwd i := hf0
  have hcv : ∀ k, k ≤ 9 → f_X11_coversBy (nI (lwd i)) (nI (lpc i)) (nI (lag i)) (nI k) (nI y) (nI L) = some (b2 (sd_cov (lD L i) k y)) := fun k hk => (cv_eq h2 h (nI k) (nI y)).symm.trans (s_covers hd hk hy)
  obtain ⟨a, b, c⟩ := h
  unfold rs_l2
  obtain ⟨r, q1, q2⟩ := rs_loop_inv (body := fun s : (Nat → Int32) × Int32 => f_X11_goLaws_L142 (nI L) (nI (lwd i)) (nI (lpc i)) (nI (lag i)) (nI y) s.1 s.2) (fun j s => s.2 = nI j ∧ ∀ k, k < 9 → s.1 k = nI (g k + if k < j then cvy L y i k else 0)) (fun r => ∀ k, k < 9 → r k = nI (g k + cvy L y i k)) L (by
    rintro j ⟨u, x⟩ hj ⟨q1, q2⟩
    dsimp only at q1 q2 ⊢
    subst q1
    unfold f_X11_goLaws_L142
    by_cases cc : L ≤ j
    · have : j = L := by omega
      subst this
      rw [if_pos (nI_le (by omega) (by omega))]
      refine Or.inr ⟨_, rfl, fun k hk => ?_⟩
      rw [q2 k hk]
      by_cases c3 : k < j
      · rw [if_pos c3]
      · rw [if_neg c3]
        have : cvy j y i k = 0 := by
          unfold cvy sd_cov
          have e1 : lD j i 1 = lwd i := rfl
          have : ¬ k < sd_first (lD j i) y + lD j i 1 := by rw [e1]; omega
          simp [this]
        rw [this]
    · have e5 : (if b2 (sd_cov (lD L i) j y) = 0 then some (0 : Int32) else some 1) = some (nI (cvy L y i j)) := by
        unfold cvy
        cases sd_cov (lD L i) j y <;> rfl
      rw [if_neg (nI_ge (by omega) (by omega)), if_neg (nI_in (c := j) (N := 9) (by omega) (by omega)), hcv j (by omega), rs_b1_some, e5, rs_b1_some, rs_lt_eq, if_neg (nI_in (c := j) (N := 9) (by omega) (by omega)), nI_clamp (n := j) (by omega), q2 j (by omega), nI_1, nI_add]
      refine Or.inl ⟨_, rfl, ⟨rfl, ?_⟩, by omega⟩
      intro k hk
      dsimp only
      by_cases ck : k = j
      · subst ck
        rw [pk_us, if_neg (by omega), if_pos (by omega), Nat.add_zero]
      · rw [pk_un ck, q2 k hk]
        by_cases c3 : k < j
        · rw [if_pos c3, if_pos (by omega)]
        · rw [if_neg c3, if_neg (by omega)]) N 0 (f, 0) (by omega) (by omega) ⟨rfl, fun k hk => by dsimp only; rw [hf k hk, if_neg (by omega), Nat.add_zero]⟩
  exact ⟨r, q1, q2⟩
theorem s_goLaws {L c y N : Nat} (h1 : 2 ≤ L) (h2 : L ≤ 9) (hc : c ≤ 8) (hy : y < 2 ^ 24) (hN : 8100 < N) (sl sy sc : Nat → Int32) (x : Int32) (f : Nat → Int32) :
    ∃ f2 c2 l2, f_X11_goLaws N x (nI y) (nI L) (nI c) f sl sy sc = some (l2, c2, f2) ∧ lST (lfit L c sl sy sc) (cvy L y) x 8000 f2 c2 l2 := by
  unfold f_X11_goLaws rs_l2
  obtain ⟨g, g1, g2⟩ := rs_loop_inv (body := fun s : (Nat → Int32) × Int32 => f_X11_goLaws_L11 s.1 s.2) (fun i s => s.2 = nI i ∧ ∀ k, k < i → s.1 k = nI 0) (fun g => ∀ k, k < 9 → g k = nI 0) 9 (by
    rintro i ⟨g, x⟩ hi ⟨hx, hg⟩
    dsimp only at hx hg ⊢
    subst hx
    unfold f_X11_goLaws_L11
    by_cases hc : 9 ≤ i
    · have : i = 9 := by omega
      subst this
      exact Or.inr ⟨g, rfl, hg⟩
    · rw [if_neg (show ¬ (9 : Int32) ≤ nI i from nI_ge (b := 9) (by omega) (by omega)), if_neg (nI_in (by omega) (by omega)), nI_clamp (by omega), nI_1]
      refine Or.inl ⟨_, rfl, ⟨rfl, ?_⟩, by omega⟩
      intro k hk
      dsimp only
      by_cases hki : k = i
      · subst hki; rw [pk_us]; rfl
      · rw [pk_un hki]; exact hg k (by omega)) N 0 (f, 0) (by omega) (by omega) ⟨rfl, fun k hk => by omega⟩
  rw [g1, rs_b1_some]
  unfold rs_l4
  obtain ⟨r, q1, q2⟩ := rs_loop_inv (body := fun s : (Nat → Int32) × Int32 × Int32 × Int32 => f_X11_goLaws_L37 N (nI L) (nI c) sl sy sc x (nI y) s.1 s.2.1 s.2.2.1 s.2.2.2) (fun i s => s.2.2.2 = nI (1000 + i) ∧ lST (lfit L c sl sy sc) (cvy L y) x i s.1 s.2.1 s.2.2.1) (fun r => lST (lfit L c sl sy sc) (cvy L y) x 8000 r.1 r.2.1 r.2.2) 8000 (by
    rintro i ⟨u, x1, x2, x3⟩ hi ⟨k1, k2⟩
    dsimp only at k1 k2 ⊢
    subst k1
    unfold f_X11_goLaws_L37
    by_cases cc : 8000 ≤ i
    · have : i = 8000 := by omega
      rw [if_pos (show (9000 : Int32) ≤ nI (1000 + i) from nI_le (a := 9000) (by omega) (by omega))]
      rw [this] at k2
      exact Or.inr ⟨_, rfl, k2⟩
    · rw [if_neg (show ¬ (9000 : Int32) ≤ nI (1000 + i) from nI_ge (b := 9000) (by omega) (by omega))]
      have e1 : nI (1000 + i) / 1000 = nI (lwd i) := pk_div (d := 1000) (by omega) (by omega) (by omega)
      have e2 : nI (1000 + i) / 100 = nI ((1000 + i) / 100) := pk_div (d := 100) (by omega) (by omega) (by omega)
      have e3 : nI ((1000 + i) / 100) - nI ((1000 + i) / 100) / 10 * 10 = nI (lpc i) := pk_rem (d := 10) (by omega) (by omega) (by omega)
      have e4 : nI (1000 + i) - nI ((1000 + i) / 100) * 100 = nI (lag i) := by
        rw [← e2]
        exact pk_rem (d := 100) (by omega) (by omega) (by omega)
      simp only [rs_lt_eq]
      rw [e1, e2, e3, e4, nI_1]
      have w1 : 1 ≤ lwd i ∧ lwd i ≤ 8 := by unfold lwd; omega
      have p9 : lpc i ≤ 9 := by unfold lpc; omega
      have a9 : lag i ≤ 99 := by unfold lag; omega
      have no : ¬ lval L i → lST (lfit L c sl sy sc) (cvy L y) x (i + 1) u x1 x2 := fun hn => lST_k (by omega) (fun z z1 z2 => by
        have : z = i := by omega
        rw [this]
        exact lfit_no hn) k2
      by_cases c1 : L ≤ lwd i
      · rw [if_pos (nI_le c1 (by omega))]
        exact Or.inl ⟨_, rfl, ⟨rfl, no (fun z => by have := z.1; omega)⟩, by omega⟩
      rw [if_neg (nI_ge (by omega) (by omega))]
      by_cases c2 : lpc i ≤ 0
      · rw [if_pos (show nI (lpc i) ≤ 0 from nI_le (b := 0) c2 (by omega))]
        exact Or.inl ⟨_, rfl, ⟨rfl, no (fun z => by have := z.2.1; omega)⟩, by omega⟩
      rw [if_neg (nI_nle (by omega) (by omega))]
      have e5 : (2 : Int32) * nI (L - lwd i) = nI (2 * (L - lwd i)) := pk_mul 2 (L - lwd i)
      have hb : 2 * (L - lwd i) * lpc i ≤ 2 * (L - lwd i) * 9 := Nat.mul_le_mul_left _ p9
      rw [pk_sub (by omega), e5, pk_mul]
      by_cases c3 : 2 * (L - lwd i) * lpc i ≤ lag i
      · rw [if_pos (nI_le c3 (by omega))]
        exact Or.inl ⟨_, rfl, ⟨rfl, no (fun z => by have := z.2.2; omega)⟩, by omega⟩
      have hv : lval L i := ⟨by omega, by omega, by omega⟩
      rw [if_neg (nI_ge (by omega) (by omega)), s_isLaw h1 h2 hv hc (N := N) (by omega), rs_b1_some]
      obtain ⟨t1, t2, t3⟩ := k2
      subst t2 t3
      have hlf : lfit L c sl sy sc i = al (sfit L sl sy sc i) c := by
        unfold lfit
        rw [decide_eq_true hv]; rfl
      cases hal : al (sfit L sl sy sc i) c with
      | false =>
        have hff : lfit L c sl sy sc i = false := hlf.trans hal
        refine Or.inl ⟨(u, nI (lcn (lfit L c sl sy sc) i), lwr (lfit L c sl sy sc) x i, nI (1000 + i + 1)), rfl, ⟨rfl, ?_⟩, by omega⟩
        exact lST_k (by omega) (fun z z1 z2 => by
          have : z = i := by omega
          rw [this]; exact hff) ⟨t1, rfl, rfl⟩
      | true =>
        have hft : lfit L c sl sy sc i = true := hlf.trans hal
        rw [if_neg (show ¬ b2 true = 0 by decide)]
        have e5 : (if nI (lcn (lfit L c sl sy sc) i) = x then some (nI (1000 + i)) else some (lwr (lfit L c sl sy sc) x i)) = some (lwr (lfit L c sl sy sc) x (i + 1)) := by
          rw [lwr_s, hft]
          by_cases c5 : nI (lcn (lfit L c sl sy sc) i) = x
          · rw [if_pos c5, if_pos ⟨rfl, c5⟩]
          · rw [if_neg c5, if_neg (fun z => c5 z.2)]
        obtain ⟨f2, z1, z2⟩ := s_goL142 h1 h2 hv hy (N := N) (by omega) t1
        rw [e5, rs_b1_some, z1, rs_b1_some, rs_b3_some, nI_1]
        refine Or.inl ⟨_, rfl, ⟨rfl, ?_, ?_, rfl⟩, by omega⟩
        · intro k hk
          dsimp only
          rw [z2 k hk, lcv_s, hft]
          rfl
        · dsimp only
          rw [lcn_s, hft]
          rfl) N 0 (g, 0, -6, 1000) (by omega) (by omega) ⟨rfl, g2, rfl, rfl⟩
  obtain ⟨r1, r2, r3⟩ := r
  rw [q1, rs_b3_some]
  exact ⟨r1, r2, r3, rfl, q2⟩
theorem lcn_le (fit : Nat → Bool) : ∀ n, lcn fit n ≤ n
  | 0 => Nat.le_refl _
  | n + 1 => by
    rw [lcn_s]
    have := lcn_le fit n
    split <;> omega
theorem lwr_no {fit : Nat → Bool} {x : Int32} (hx : x.toInt < 0) : ∀ n, n ≤ 8000 → lwr fit x n = -6
  | 0, _ => rfl
  | n + 1, h => by
    rw [lwr_s, lwr_no hx n (by omega), if_neg]
    rintro ⟨_, z⟩
    have := lcn_le fit n
    rw [← z, nI_toInt (by omega)] at hx
    omega
theorem e_laws {L c : Nat} (h1 : 2 ≤ L) (h2 : L ≤ 9) (hc : c ≤ 8) {N : Nat} (hN : 8100 < N) {sl sy sc xl xy xc : Nat → Int32} (el : ∀ j, j < 8 → xl j = sl j) (ey : ∀ j, j < 8 → xy j = sy j) (ec : ∀ j, j < 8 → xc j = sc j)
    (p1 a1 a2 t0 t1 t2 t3 : Int32) (f g : Nat → Int32) :
    ∃ (r o1 o2 o4 o5 o6 o7 n1 : Int32) (o3 n2 : Nat → Int32), f_X10_laws N p1 a1 a2 f (nI L) t0 t1 t2 t3 (nI c) xl xy xc = some (r, o1, o2, o3, o4, o5, o6, o7) ∧ f_X11_laws N p1 (nI L) (nI c) g sl sy sc = some (r, n1, n2) := by
  unfold f_X10_laws f_X11_laws
  obtain ⟨f2, c2, l2, w1, w2, w3, w4⟩ := s_goLaws h1 h2 hc (y := 0) (by omega) hN sl sy sc p1 g
  rw [show (0 : Int32) = nI 0 from rfl, w1, rs_b3_some]
  by_cases hp : (-1 : Int32) ≤ p1
  · obtain ⟨f3, c3, l3, a3, a4, a5, z1, z2, z3, z4⟩ := s_take h1 h2 hc (N := N) (by omega) el ey ec (cv := fun _ _ => 0) (p3 := -1) p1 (Or.inl ⟨rfl, fun _ _ => rfl⟩) f t1 t2 t3
    rw [if_pos hp, z1, rs_b7_some, z3, z4, w3, w4]
    by_cases c : p1 = -1
    · rw [if_pos c, if_pos c]
      exact ⟨_, _, _, _, _, _, _, _, _, _, rfl, rfl⟩
    · rw [if_neg c, if_neg c]
      exact ⟨_, _, _, _, _, _, _, _, _, _, rfl, rfl⟩
  · have hp2 : p1.toInt < -1 := by
      rw [pn_le] at hp
      have : (-1 : Int32).toInt = -1 := rfl
      omega
    rw [if_neg hp, if_neg (fun z => by rw [z] at hp2; exact absurd hp2 (by decide)), w4, lwr_no (by omega) 8000 (by omega)]
    exact ⟨_, _, _, _, _, _, _, _, _, _, rfl, rfl⟩
def lm (c : Int32) (f : Nat → Int32) (k : Nat) : Int32 := if f k ≤ c - f k then c - f k else f k
theorem s_lamX {c : Int32} (f : Nat → Int32) {k : Nat} (hk : k < 9) : f_X1_leftAtMost (nI k) c f = some (lm c f k) := by
  unfold f_X1_leftAtMost lm
  rw [s_atA f hk (by omega), rs_b1_some]
  by_cases c1 : f k < c - f k
  · rw [if_pos c1, if_pos (by rw [pn_le]; rw [pn_lt] at c1; omega)]
  · rw [if_neg c1]
    by_cases c2 : f k ≤ c - f k
    · rw [if_pos c2]
      have : (f k).toInt = (c - f k).toInt := by
        rw [pn_lt] at c1
        rw [pn_le] at c2
        omega
      rw [← Int32.toInt_inj.mp this]
    · rw [if_neg c2]
theorem s_lamM {c : Int32} (f : Nat → Int32) {k : Nat} (hk : k < 9) : f_X11_mostLeft (nI k) c f = some (lm c f k) := by
  unfold f_X11_mostLeft lm
  rw [if_neg (nI_in (by omega) (by omega)), if_neg (nI_in (by omega) (by omega)), if_neg (nI_in (by omega) (by omega)), if_neg (nI_in (by omega) (by omega)), nI_clamp (by omega)]
  split <;> rfl
def bst (c : Int32) (f : Nat → Int32) : Nat → Nat
  | 0 => 0
  | i + 1 => if lm c f (bst c f i) ≤ lm c f (i + 1) then bst c f i else i + 1
theorem bst_le (c : Int32) (f : Nat → Int32) : ∀ i, bst c f i ≤ i
  | 0 => Nat.le_refl _
  | i + 1 => by
    unfold bst
    have := bst_le c f i
    split <;> omega
theorem lm_cong {c : Int32} {f g : Nat → Int32} (h : ∀ k, k < 9 → f k = g k) {k : Nat} (hk : k < 9) : lm c f k = lm c g k := by
  unfold lm
  rw [h k hk]
theorem bst_cong {c : Int32} {f g : Nat → Int32} (h : ∀ k, k < 9 → f k = g k) : ∀ i, i < 9 → bst c f i = bst c g i
  | 0, _ => rfl
  | i + 1, hi => by
    have e := bst_cong (c := c) h i (by omega)
    have := bst_le c g i
    unfold bst
    rw [e, lm_cong h (k := bst c g i) (by omega), lm_cong h hi]
theorem s_bestX {L N : Nat} (h1 : 2 ≤ L) (h2 : L ≤ 9) (hN : 20 < N) (c : Int32) (f : Nat → Int32) : f_X1_bestLook N (nI L) c f = some (nI (bst c f (L - 1))) := by
  unfold f_X1_bestLook
  have e : rs_l2 (f_X1_bestLook_L4 (nI L) c f) N 0 1 = some (nI (bst c f (L - 1))) := by
    unfold rs_l2
    refine rs_loop_run (fun j => (nI (bst c f j), nI (j + 1))) (L - 1) rfl (by omega) ?_ ?_
    · intro j hj
      have hb := bst_le c f j
      show f_X1_bestLook_L4 _ _ _ (nI (bst c f j)) (nI (j + 1)) = some (Sum.inl (nI (if lm c f (bst c f j) ≤ lm c f (j + 1) then bst c f j else j + 1), nI (j + 1 + 1)))
      unfold f_X1_bestLook_L4
      rw [if_neg (nI_ge (by omega) (by omega)), s_lamX f (by omega), rs_b1_some, s_lamX f (by omega), rs_b1_some, nI_1]
      split <;> rfl
    · show f_X1_bestLook_L4 _ _ _ (nI (bst c f (L - 1))) (nI (L - 1 + 1)) = _
      unfold f_X1_bestLook_L4
      rw [if_pos (nI_le (by omega) (by omega))]
  rw [e]
  rfl
theorem s_bestM {L N : Nat} (h1 : 2 ≤ L) (h2 : L ≤ 9) (hN : 20 < N) (c : Int32) (f : Nat → Int32) : rs_l2 (f_X11_look_L43 (nI L) c f) N 0 1 = some (nI (bst c f (L - 1))) := by
  unfold rs_l2
  refine rs_loop_run (fun j => (nI (bst c f j), nI (j + 1))) (L - 1) rfl (by omega) ?_ ?_
  · intro j hj
    have hb := bst_le c f j
    show f_X11_look_L43 _ _ _ (nI (bst c f j)) (nI (j + 1)) = some (Sum.inl (nI (if lm c f (bst c f j) ≤ lm c f (j + 1) then bst c f j else j + 1), nI (j + 1 + 1)))
    unfold f_X11_look_L43
    rw [if_neg (nI_ge (by omega) (by omega)), s_lamM f (by omega), rs_b1_some, s_lamM f (by omega), rs_b1_some, nI_1]
    split <;> rfl
  · show f_X11_look_L43 _ _ _ (nI (bst c f (L - 1))) (nI (L - 1 + 1)) = _
    unfold f_X11_look_L43
    rw [if_pos (nI_le (by omega) (by omega))]
theorem e_look {L c : Nat} (h1 : 2 ≤ L) (h2 : L ≤ 9) (hc : c ≤ 8) {N : Nat} (hN : 8100 < N) {sl sy sc xl xy xc : Nat → Int32} (el : ∀ j, j < 8 → xl j = sl j) (ey : ∀ j, j < 8 → xy j = sy j) (ec : ∀ j, j < 8 → xc j = sc j)
    (p1 p2 a1 a2 t0 t1 t2 t3 m1 : Int32) (f g : Nat → Int32) :
    ∃ (r o1 o2 o4 o5 o6 o7 n1 : Int32) (o3 n2 : Nat → Int32), f_X10_look N p1 p2 a1 a2 f (nI L) t0 t1 t2 t3 (nI c) xl xy xc = some (r, o1, o2, o3, o4, o5, o6, o7) ∧ f_X11_look N p1 p2 (nI L) (nI c) m1 g sl sy sc = some (r, n1, n2) := by
  unfold f_X10_look f_X11_look
  rw [s_isYear, s_isYearM, s_within, s_in]
  simp only [rs_b1_some, b2_0]
  cases g3 : isy p1 with
  | false => exact ⟨_, _, _, _, _, _, _, _, _, _, rfl, rfl⟩
  | true =>
    cases g4 : ins p2 0 1 with
    | false =>
      have e1 : (decide ((0 : Int32).toInt ≤ p2.toInt) && decide (p2.toInt ≤ (1 : Int32).toInt)) = false := g4
      have e2 : (decide ((0 : Int64).toInt ≤ p2.toInt) && decide (p2.toInt ≤ (1 : Int64).toInt)) = false := g4
      rw [e1, e2]
      exact ⟨_, _, _, _, _, _, _, _, _, _, rfl, rfl⟩
    | true =>
      have e1 : (decide ((0 : Int32).toInt ≤ p2.toInt) && decide (p2.toInt ≤ (1 : Int32).toInt)) = true := g4
      have e2 : (decide ((0 : Int64).toInt ≤ p2.toInt) && decide (p2.toInt ≤ (1 : Int64).toInt)) = true := g4
      rw [e1, e2]
      obtain ⟨y, hy, rfl⟩ := isy_of g3
      simp only [itf]
      obtain ⟨f2, c2, l2, w1, w2, w3, w4⟩ := s_goLaws h1 h2 hc (y := y) (by omega) hN sl sy sc (-6) g
      obtain ⟨f3, c3, l3, a3, a4, a5, z1, z2, z3, z4⟩ := s_take h1 h2 hc (N := N) (by omega) el ey ec (cv := cvy L y) (p3 := nI y) (-6) (Or.inr ⟨y, hy, rfl, fun _ _ => rfl⟩) f t1 t2 t3
      have hcc : c3 = c2 := z3.trans w3.symm
      subst hcc
      have hff : ∀ k, k < 9 → f3 k = f2 k := fun k hk => (z2 k hk).trans (w2 k hk).symm
      rw [w1, z1, rs_b3_some, rs_b7_some]
      by_cases c : c3 = 0
      · rw [if_pos c, if_pos c]
        exact ⟨_, _, _, _, _, _, _, _, _, _, rfl, rfl⟩
      · have hb := bst_le c3 f2 (L - 1)
        rw [if_neg c, if_neg c, s_bestX h1 h2 (N := N) (by omega), s_bestM h1 h2 (N := N) (by omega), rs_b1_some, rs_b1_some, bst_cong hff _ (by omega)]
        by_cases c4 : p2 = 0
        · rw [if_pos c4, if_pos c4]
          exact ⟨_, _, _, _, _, _, _, _, _, _, rfl, rfl⟩
        · rw [if_neg c4, if_neg c4, s_lamX f3 (by omega), s_lamM f2 (by omega), rs_b1_some, rs_b1_some, lm_cong hff (by omega)]
          exact ⟨_, _, _, _, _, _, _, _, _, _, rfl, rfl⟩
