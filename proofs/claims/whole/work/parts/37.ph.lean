theorem s_copy {n N : Nat} (hn : n < 2 ^ 31) (hN : n < N) (a b : Nat → Int32) : ∃ c, f_X10_copy N n n a b = some c ∧ ∀ j, j < n → c j = a j := by
  unfold f_X10_copy rs_l2
  obtain ⟨r, h1, h2⟩ := rs_loop_inv (body := fun s : (Nat → Int32) × Int32 => f_X10_copy_L2 n n a s.1 s.2) (fun i s => s.2 = nI i ∧ ∀ k, k < i → s.1 k = a k) (fun g => ∀ k, k < n → g k = a k) n (by
    rintro i ⟨g, x⟩ hi ⟨hx, hg⟩
    dsimp only at hx hg ⊢
    subst hx
    unfold f_X10_copy_L2
    by_cases hc : n ≤ i
    · have : i = n := by omega
      rw [if_pos (show Int32.ofNat n ≤ nI i from nI_le hc (by omega))]
      subst this
      exact Or.inr ⟨g, rfl, hg⟩
    · rw [if_neg (show ¬ Int32.ofNat n ≤ nI i from nI_ge (by omega) (by omega)), if_neg (show ¬ Int32.ofNat n ≤ nI i from nI_ge (by omega) (by omega)), if_neg (nI_in (by omega) (by omega)), if_neg (nI_in (by omega) (by omega)), nI_clamp (by omega), nI_1]
      refine Or.inl ⟨_, rfl, ⟨rfl, ?_⟩, by omega⟩
      intro k hk
      dsimp only
      by_cases hki : k = i
      · subst hki; rw [pk_us]
      · rw [pk_un hki]; exact hg k (by omega)) N 0 (b, 0) (by omega) (by omega) ⟨rfl, fun k hk => by omega⟩
  rw [h1]
  exact ⟨r, rfl, h2⟩
theorem s_clear {n N : Nat} (hn : n < 2 ^ 31) (hN : n < N) (a : Nat → Int32) : ∃ c, f_X10_clear N n a = some c ∧ ∀ j, j < n → c j = nI 0 := by
  unfold f_X10_clear rs_l2
  obtain ⟨r, h1, h2⟩ := rs_loop_inv (body := fun s : (Nat → Int32) × Int32 => f_X10_clear_L2 n s.1 s.2) (fun i s => s.2 = nI i ∧ ∀ k, k < i → s.1 k = nI 0) (fun g => ∀ k, k < n → g k = nI 0) n (by
    rintro i ⟨g, x⟩ hi ⟨hx, hg⟩
    dsimp only at hx hg ⊢
    subst hx
    unfold f_X10_clear_L2
    by_cases hc : n ≤ i
    · have : i = n := by omega
      rw [if_pos (show Int32.ofNat n ≤ nI i from nI_le hc (by omega))]
      subst this
      exact Or.inr ⟨g, rfl, hg⟩
    · rw [if_neg (show ¬ Int32.ofNat n ≤ nI i from nI_ge (by omega) (by omega)), if_neg (nI_in (by omega) (by omega)), nI_clamp (by omega), nI_1]
      refine Or.inl ⟨_, rfl, ⟨rfl, ?_⟩, by omega⟩
      intro k hk
      dsimp only
      by_cases hki : k = i
      · subst hki; rw [pk_us]; rfl
      · rw [pk_un hki]; exact hg k (by omega)) N 0 (a, 0) (by omega) (by omega) ⟨rfl, fun k hk => by omega⟩
  rw [h1]
  exact ⟨r, rfl, h2⟩
theorem s_takeX {V : Nat → Nat → Nat} {a : Nat → Int32} (h : XS V a) (b : Nat → Int32) {N : Nat} (hN : 40 < N) : ∃ c, f_X6_takeFrom N a b = some c ∧ XS V c := by
  unfold f_X6_takeFrom
  obtain ⟨c, h1, h2⟩ := s_copy (n := 36) (N := N) (by omega) (by omega) a b
  rw [h1]
  exact ⟨c, rfl, fun k hk j hj => by rw [h2 _ (by omega)]; exact h k hk j hj⟩
theorem s_beginS {D : Nat → Nat} {V : Nat → Nat → Nat} {a : Nat → Int32} (h : XS V a) (b g : Nat → Int32) {N : Nat} (hN : 40 < N) (y : Int32) : ∃ f2 g2, f_X7_begin N y (nI (D 0)) (nI (D 1)) (nI (D 2)) (nI (D 3)) (nI (D 4)) (nI (D 5)) (nI (D 6)) a b g = some (y, 0, 0, 0, (-6), (-6), 0, nI (D 0), nI (D 1), nI (D 2), nI (D 3), nI (D 4), nI (D 5), nI (D 6), f2, g2) ∧ XS V f2 ∧ ∀ k, k < 9 → g2 k = nI 0 := by
  unfold f_X7_begin f_X4_takeFrom
  obtain ⟨c, h1, h2⟩ := s_takeX h b hN
  obtain ⟨d, h3, h4⟩ := s_clear (n := 9) (N := N) (by omega) (by omega) g
  rw [h1, h3]
  exact ⟨c, d, rfl, h2, h4⟩
theorem s_keepNow {V : Nat → Nat → Nat} {f : Nat → Int32} (hM : MS V f) (y : Int32) (b g : Nat → Int32) {N : Nat} (hN : 10 < N) : ∃ b2 g2, f_X11_keepNow N y f b g = some (0, y, b2, g2) ∧ (∀ k, k < 9 → b2 k = nI (V 2 k)) ∧ ∀ k, k < 9 → g2 k = nI 0 := by
  unfold f_X11_keepNow rs_l2
  obtain ⟨r, h1, h2⟩ := rs_loop_inv (body := fun s : (Nat → Int32) × Int32 => f_X11_keepNow_L2 f s.1 s.2) (fun i s => s.2 = nI i ∧ ∀ k, k < i → s.1 k = nI (V 2 k)) (fun g => ∀ k, k < 9 → g k = nI (V 2 k)) 9 (by
    rintro i ⟨g, x⟩ hi ⟨hx, hg⟩
    dsimp only at hx hg ⊢
    subst hx
    unfold f_X11_keepNow_L2
    by_cases hc : 9 ≤ i
    · have : i = 9 := by omega
      subst this
      exact Or.inr ⟨g, rfl, hg⟩
    · rw [if_neg (show ¬ (9 : Int32) ≤ nI i from nI_ge (b := 9) (by omega) (by omega)), s_at2, rs_b1_some, if_neg (nI_in (by omega) (by omega)), nI_clamp (by omega), hM i (by omega) 2 (by omega), rs_lt_eq, if_neg (nI_in (by omega) (by omega)), nI_clamp (by omega), nI_1]
      refine Or.inl ⟨_, rfl, ⟨rfl, ?_⟩, by omega⟩
      intro k hk
      dsimp only
      by_cases hki : k = i
      · subst hki; rw [pk_us]
      · rw [pk_un hki]; exact hg k (by omega)) N 0 (b, 0) (by omega) (by omega) ⟨rfl, fun k hk => by omega⟩
  rw [h1, rs_b1_some]
  obtain ⟨r2, h3, h4⟩ := rs_loop_inv (body := fun s : (Nat → Int32) × Int32 => f_X11_keepNow_L45 s.1 s.2) (fun i s => s.2 = nI i ∧ ∀ k, k < i → s.1 k = nI 0) (fun g => ∀ k, k < 9 → g k = nI 0) 9 (by
    rintro i ⟨g, x⟩ hi ⟨hx, hg⟩
    dsimp only at hx hg ⊢
    subst hx
    unfold f_X11_keepNow_L45
    by_cases hc : 9 ≤ i
    · have : i = 9 := by omega
      subst this
      exact Or.inr ⟨g, rfl, hg⟩
    · rw [if_neg (show ¬ (9 : Int32) ≤ nI i from nI_ge (b := 9) (by omega) (by omega)), if_neg (nI_in (by omega) (by omega)), nI_clamp (by omega), nI_1]
      refine Or.inl ⟨_, rfl, ⟨rfl, ?_⟩, by omega⟩
      intro k hk
      dsimp only
      by_cases hki : k = i
      · subst hki; rw [pk_us]; rfl
      · rw [pk_un hki]; exact hg k (by omega)) N 0 (g, 0) (by omega) (by omega) ⟨rfl, fun k hk => by omega⟩
  rw [h3]
  exact ⟨r, r2, rfl, h2, h4⟩
def sx (V W : Nat → Nat → Nat) : Prop := ∀ j k, j ≠ 2 → W j k = V j k
theorem sx_rf (V : Nat → Nat → Nat) : sx V V := fun _ _ _ => rfl
theorem sx_tr {V W U : Nat → Nat → Nat} (h : sx V W) (h2 : sx W U) : sx V U := fun j k hj => (h2 j k hj).trans (h j k hj)
theorem sx_vup (V : Nat → Nat → Nat) (k v : Nat) : sx V (vup V 2 k v) := fun j a hj => vup_n V (by omega)
theorem sx_py (D : Nat → Nat) (V : Nat → Nat → Nat) (y : Nat) : sx V (py D V y) := fun j a hj => by unfold py pyi; rw [if_neg (by omega)]
theorem s_putBack {V W : Nat → Nat → Nat} (hs : sx V W) {f b : Nat → Int32} (hM : MS W f) (hb : ∀ k, k < 9 → b k = nI (V 2 k)) (y : Int32) {N : Nat} (hN : 10 < N) : ∃ f2, f_X11_putBack N y b f = some (y, f2) ∧ MS V f2 := by
  unfold f_X11_putBack rs_l2
  obtain ⟨r, h1, h2⟩ := rs_loop_inv (body := fun s : (Nat → Int32) × Int32 => f_X11_putBack_L2 b s.1 s.2) (fun i s => s.2 = nI i ∧ ∀ k, k < 9 → ∀ j, j < 4 → s.1 (9 * j + k) = nI (if j = 2 ∧ ¬ k < i then W 2 k else V j k)) (fun g => MS V g) 9 (by
    rintro i ⟨g, x⟩ hi ⟨hx, hg⟩
    dsimp only at hx hg ⊢
    subst hx
    unfold f_X11_putBack_L2
    by_cases hc : 9 ≤ i
    · have : i = 9 := by omega
      subst this
      refine Or.inr ⟨g, rfl, fun k hk j hj => ?_⟩
      rw [hg k hk j hj, if_neg (by omega)]
    · rw [if_neg (show ¬ (9 : Int32) ≤ nI i from nI_ge (b := 9) (by omega) (by omega)), s_at2, rs_b1_some, if_neg (nI_in (by omega) (by omega)), nI_clamp (n := i) (by omega), hb i (by omega), rs_lt_eq, if_neg (nI_in (by omega) (by omega)), nI_clamp (by omega), nI_1]
      refine Or.inl ⟨_, rfl, ⟨rfl, ?_⟩, by omega⟩
      intro k hk j hj
      dsimp only
      by_cases hki : k = i ∧ j = 2
      · obtain ⟨rfl, rfl⟩ := hki
        rw [pk_us, if_neg (by omega)]
      · rw [pk_un (by omega), hg k hk j hj]
        by_cases c : j = 2 ∧ ¬ k < i
        · rw [if_pos c, if_pos (by omega)]
        · rw [if_neg c, if_neg (by omega)]) N 0 (f, 0) (by omega) (by omega) ⟨rfl, fun k hk j hj => by
          dsimp only
          rw [hM k hk j hj]
          by_cases c : j = 2
          · subst c; rw [if_pos ⟨rfl, by omega⟩]
          · rw [if_neg (by omega), hs j k c]⟩
  rw [h1]
  exact ⟨r, rfl, h2⟩
-- many years
def Vn (D : Nat → Nat) (V : Nat → Nat → Nat) (y : Nat) : Nat → Nat → Nat → Nat
  | 0 => V
  | m + 1 => py D (Vn D V y m) (y + m)
def cs (D : Nat → Nat) (V : Nat → Nat → Nat) (y m : Nat) : Nat := sm (fun i => cn D (Vn D V y i) (y + i)) m
def hn (D : Nat → Nat) (V : Nat → Nat → Nat) (y m k : Nat) : Nat := sm (fun i => if k < D 0 then hg D (Vn D V y i) (y + i) k else 0) m
theorem Vn_ok {D : Nat → Nat} {V : Nat → Nat → Nat} (hV : vok V) (y : Nat) : ∀ m, vok (Vn D V y m)
  | 0 => hV
  | m + 1 => pyi_ok (Vn_ok hV y m) _ _
theorem Vn_sx (D : Nat → Nat) (V : Nat → Nat → Nat) (y : Nat) : ∀ m, sx V (Vn D V y m)
  | 0 => sx_rf V
  | m + 1 => sx_tr (Vn_sx D V y m) (sx_py D _ _)
theorem s_passYears {D : Nat → Nat} (h : sd_ok D) {V : Nat → Nat → Nat} (hV : vok V) {y m N : Nat} (hy : y + m < 2 ^ 23) (hm : m ≤ 100) (hN : 200 < N) {f g : Nat → Int32} (hX : XS V f) {hu : Nat → Nat} (hg0 : ∀ k, k < 9 → g k = nI (hu k)) (ys hs : Nat) :
    ∃ f2 g2, f_X7_passYears N (nI m) (nI y) (nI ys) (nI hs) (nI (D 0)) (nI (D 1)) (nI (D 2)) (nI (D 3)) (nI (D 4)) (nI (D 5)) (nI (D 6)) f g = some (nI (y + m), nI (ys + m), nI (hs + cs D V y m), f2, g2) ∧ XS (Vn D V y m) f2 ∧ ∀ k, k < 9 → g2 k = nI (hu k + hn D V y m k) := by
  unfold f_X7_passYears rs_l6
  obtain ⟨r, h1, h2⟩ := rs_loop_inv (body := fun s : (Nat → Int32) × (Nat → Int32) × Int32 × Int32 × Int32 × Int32 => f_X7_passYears_L2 N (nI m) (nI (D 0)) (nI (D 1)) (nI (D 2)) (nI (D 3)) (nI (D 4)) (nI (D 5)) (nI (D 6)) s.1 s.2.1 s.2.2.1 s.2.2.2.1 s.2.2.2.2.1 s.2.2.2.2.2) (fun i s => XS (Vn D V y i) s.1 ∧ (∀ k, k < 9 → s.2.1 k = nI (hu k + hn D V y i k)) ∧ s.2.2.1 = nI (y + i) ∧ s.2.2.2.1 = nI (ys + i) ∧ s.2.2.2.2.1 = nI (hs + cs D V y i) ∧ s.2.2.2.2.2 = nI i) (fun r => XS (Vn D V y m) r.1 ∧ (∀ k, k < 9 → r.2.1 k = nI (hu k + hn D V y m k)) ∧ r.2.2.1 = nI (y + m) ∧ r.2.2.2.1 = nI (ys + m) ∧ r.2.2.2.2 = nI (hs + cs D V y m)) m (by
    rintro i ⟨a, b, c1, c2, c3, c4⟩ hi ⟨q1, q2, q3, q4, q5, q6⟩
    dsimp only at q1 q2 q3 q4 q5 q6 ⊢
    subst q3 q4 q5 q6
    unfold f_X7_passYears_L2
    by_cases hc : m ≤ i
    · have : i = m := by omega
      rw [if_pos (nI_le hc (by omega))]
      subst this
      exact Or.inr ⟨_, rfl, q1, q2, rfl, rfl, rfl⟩
    · obtain ⟨f2, g2, e1, e2, e3⟩ := s_pyX h (Vn_ok hV y i) (y := y + i) (N := N) (by omega) (by omega) q1 q2 (ys + i) (hs + cs D V y i)
      rw [if_neg (nI_ge (by omega) (by omega)), e1, rs_b5_some, nI_1]
      refine Or.inl ⟨_, rfl, ⟨e2, ?_, rfl, rfl, ?_, rfl⟩, by omega⟩
      · intro k hk
        dsimp only
        rw [e3 k hk, Nat.add_assoc]
        rfl
      · dsimp only
        rw [Nat.add_assoc]
        rfl) N 0 (f, g, nI y, nI ys, nI hs, 0) (by omega) (by omega) ⟨hX, fun k hk => by dsimp only; rw [hg0 k hk]; rfl, rfl, rfl, rfl, rfl⟩
  obtain ⟨r1, r2, r3, r4, r5⟩ := r
  obtain ⟨w1, w2, w3, w4, w5⟩ := h2
  dsimp only at w1 w2 w3 w4 w5
  rw [h1, rs_b5_some, w3, w4, w5]
  exact ⟨r1, r2, rfl, w1, w2⟩
theorem s_pacedM {D : Nat → Nat} (h : sd_ok D) {V : Nat → Nat → Nat} (hV : vok V) {y m N : Nat} (hy : y + m < 2 ^ 23) (hm : m ≤ 100) (hN : 200 < N) {f g : Nat → Int32} (hX : MS V f) {hu : Nat → Nat} (hg0 : ∀ k, k < 9 → g k = nI (hu k)) (hs : Nat) :
    ∃ f2 g2, rs_l5 (f_X11_paced_L44 N (nI m) (nI (D 0)) (nI (D 1)) (nI (D 2)) (nI (D 3)) (nI (D 4)) (nI (D 5)) (nI (D 6))) N f g (nI hs) (nI y) 0 = some (f2, g2, nI (hs + cs D V y m), nI (y + m)) ∧ MS (Vn D V y m) f2 ∧ ∀ k, k < 9 → g2 k = nI (hu k + hn D V y m k) := by
  unfold rs_l5
  obtain ⟨r, h1, h2⟩ := rs_loop_inv (body := fun s : (Nat → Int32) × (Nat → Int32) × Int32 × Int32 × Int32 => f_X11_paced_L44 N (nI m) (nI (D 0)) (nI (D 1)) (nI (D 2)) (nI (D 3)) (nI (D 4)) (nI (D 5)) (nI (D 6)) s.1 s.2.1 s.2.2.1 s.2.2.2.1 s.2.2.2.2) (fun i s => MS (Vn D V y i) s.1 ∧ (∀ k, k < 9 → s.2.1 k = nI (hu k + hn D V y i k)) ∧ s.2.2.1 = nI (hs + cs D V y i) ∧ s.2.2.2.1 = nI (y + i) ∧ s.2.2.2.2 = nI i) (fun r => MS (Vn D V y m) r.1 ∧ (∀ k, k < 9 → r.2.1 k = nI (hu k + hn D V y m k)) ∧ r.2.2.1 = nI (hs + cs D V y m) ∧ r.2.2.2 = nI (y + m)) m (by
    rintro i ⟨a, b, c1, c2, c3⟩ hi ⟨q1, q2, q3, q4, q5⟩
    dsimp only at q1 q2 q3 q4 q5 ⊢
    subst q3 q4 q5
    unfold f_X11_paced_L44
    by_cases hc : m ≤ i
    · have : i = m := by omega
      rw [if_pos (nI_le hc (by omega))]
      subst this
      exact Or.inr ⟨_, rfl, q1, q2, rfl, rfl⟩
    · obtain ⟨f2, g2, e1, e2, e3⟩ := s_pyM h (Vn_ok hV y i) (y := y + i) (N := N) (by omega) (by omega) q1 q2 (hs + cs D V y i)
      rw [if_neg (nI_ge (by omega) (by omega)), e1, rs_b5_some, nI_1]
      refine Or.inl ⟨_, rfl, ⟨e2, ?_, ?_, rfl, rfl⟩, by omega⟩
      · intro k hk
        dsimp only
        rw [e3 k hk, Nat.add_assoc]
        rfl
      · dsimp only
        rw [Nat.add_assoc]
        rfl) N 0 (f, g, nI hs, nI y, 0) (by omega) (by omega) ⟨hX, fun k hk => by dsimp only; rw [hg0 k hk]; rfl, rfl, rfl, rfl⟩
  obtain ⟨r1, r2, r3, r4⟩ := r
  obtain ⟨w1, w2, w3, w4⟩ := h2
  dsimp only at w1 w2 w3 w4
  rw [h1, w3, w4]
  exact ⟨r1, r2, rfl, w1, w2⟩
theorem e_paced {D : Nat → Nat} (h : sd_ok D) {V : Nat → Nat → Nat} (hV : vok V) {f g : Nat → Int32} (hX : XS V f) (hM : MS V g) {N : Nat} (hN : 200 < N) {y : Nat} (hy : y < 2 ^ 22) (p1 p2 : Int32)
    (t1 t2 t3 t4 t5 t6 t7 t8 t9 t10 t11 t12 t13 t14 : Int32) (a1 a2 : Nat → Int32) (m1 m2 : Int32) (b1 b2 : Nat → Int32) :
    ∃ (r : Int32) (o1 o2 o3 o4 o5 o6 o7 o8 o9 o10 o11 o12 o13 o14 : Int32) (c1 c2 : Nat → Int32) (n1 n2 : Int32) (g2 d1 d2 : Nat → Int32),
      f_X10_paced N p1 p2 t1 t2 t3 t4 t5 t6 t7 (nI y) t8 t9 t10 t11 t12 t13 t14 (nI (D 0)) (nI (D 1)) (nI (D 2)) (nI (D 3)) (nI (D 4)) (nI (D 5)) (nI (D 6)) f a1 a2 = some (r, o1, o2, o3, o4, o5, o6, o7, o8, o9, o10, o11, o12, o13, o14, c1, c2) ∧ f_X11_paced N p1 p2 (nI (D 0)) (nI (D 1)) (nI (D 3)) (nI (D 4)) (nI (D 5)) (nI (D 6)) (nI y) m1 m2 g b1 b2 = some (r, nI y, n1, n2, g2, d1, d2) ∧ MS V g2 := by
  unfold f_X10_paced f_X11_paced
  simp only [s_within, s_in, rs_b1_some, b2_0]
  cases h1 : ins p1 1 9 with
  | false =>
    have e1 : (decide ((1 : Int32).toInt ≤ p1.toInt) && decide (p1.toInt ≤ (9 : Int32).toInt)) = false := h1
    have e2 : (decide ((1 : Int64).toInt ≤ p1.toInt) && decide (p1.toInt ≤ (9 : Int64).toInt)) = false := h1
    rw [e1, e2]
    exact ⟨-2, t1, t2, t3, t4, t5, t6, t7, t8, t9, t10, t11, t12, t13, t14, a1, a2, m1, m2, g, b1, b2, rfl, rfl, hM⟩
  | true =>
    have e1 : (decide ((1 : Int32).toInt ≤ p1.toInt) && decide (p1.toInt ≤ (9 : Int32).toInt)) = true := h1
    have e2 : (decide ((1 : Int64).toInt ≤ p1.toInt) && decide (p1.toInt ≤ (9 : Int64).toInt)) = true := h1
    rw [e1, e2]
    cases h2 : ins p2 1 99 with
    | false =>
      have e1 : (decide ((1 : Int32).toInt ≤ p2.toInt) && decide (p2.toInt ≤ (99 : Int32).toInt)) = false := h2
      have e2 : (decide ((1 : Int64).toInt ≤ p2.toInt) && decide (p2.toInt ≤ (99 : Int64).toInt)) = false := h2
      rw [e1, e2]
      exact ⟨-2, t1, t2, t3, t4, t5, t6, t7, t8, t9, t10, t11, t12, t13, t14, a1, a2, m1, m2, g, b1, b2, rfl, rfl, hM⟩
    | true =>
      have e1 : (decide ((1 : Int32).toInt ≤ p2.toInt) && decide (p2.toInt ≤ (99 : Int32).toInt)) = true := h2
      have e2 : (decide ((1 : Int64).toInt ≤ p2.toInt) && decide (p2.toInt ≤ (99 : Int64).toInt)) = true := h2
      rw [e1, e2]
      obtain ⟨q, q1, q2, rfl⟩ := ins_of1 (a := 1) (b := 9) h1
      obtain ⟨m, q3, q4, rfl⟩ := ins_of1 (a := 1) (b := 99) h2
      simp only [itf]
      have hE : sd_ok (Dup D 2 q) := by
        obtain ⟨h0, h1, h2, h3, h4, h5, h6, h7, h8, h9⟩ := h
        exact ⟨h0, h1, h2, h3, q1, q2, h6, h7, h8, h9⟩
      obtain ⟨f2, g2, w1, w2, w3⟩ := s_beginS (D := D) hX a1 a2 (N := N) (by omega) (nI y)
      obtain ⟨b3, b4, w4, w5, w6⟩ := s_keepNow hM (nI y) b1 b2 (N := N) (by omega)
      obtain ⟨f3, g3, w7, w8, w9⟩ := s_passYears hE hV (y := y) (m := m) (N := N) (by omega) (by omega) (by omega) w2 (hu := fun _ => 0) w3 0 0
      obtain ⟨f4, g4, w10, w11, w12⟩ := s_pacedM hE hV (y := y) (m := m) (N := N) (by omega) (by omega) (by omega) hM (hu := fun _ => 0) w6 0
      obtain ⟨f5, w13, w14⟩ := s_putBack (Vn_sx (Dup D 2 q) V y m) w11 w5 (nI y) (N := N) (by omega)
      have w7' : f_X7_passYears N (nI m) (nI y) 0 0 (nI (D 0)) (nI (D 1)) (nI q) (nI (D 3)) (nI (D 4)) (nI (D 5)) (nI (D 6)) f2 g2 = _ := w7
      have w10' : rs_l5 (f_X11_paced_L44 N (nI m) (nI (D 0)) (nI (D 1)) (nI q) (nI (D 3)) (nI (D 4)) (nI (D 5)) (nI (D 6))) N g b4 0 (nI y) 0 = _ := w10
      rw [w1, w4]
      show ∃ (r : Int32) (o1 o2 o3 o4 o5 o6 o7 o8 o9 o10 o11 o12 o13 o14 : Int32) (c1 c2 : Nat → Int32) (n1 n2 : Int32) (g2_1 d1 d2 : Nat → Int32), rs_b5 (f_X7_passYears N (nI m) (nI y) 0 0 (nI (D 0)) (nI (D 1)) (nI q) (nI (D 3)) (nI (D 4)) (nI (D 5)) (nI (D 6)) f2 g2) _ = _ ∧ rs_b4 (rs_l5 (f_X11_paced_L44 N (nI m) (nI (D 0)) (nI (D 1)) (nI q) (nI (D 3)) (nI (D 4)) (nI (D 5)) (nI (D 6))) N g b4 0 (nI y) 0) _ = _ ∧ _
      rw [w7', w10', rs_b5_some, rs_b4_some, w13, rs_b2_some]
      exact ⟨_, _, _, _, _, _, _, _, _, _, _, _, _, _, _, _, _, _, _, _, _, _, rfl, rfl, w14⟩
