-- images: the reference's flat copy
theorem upd_self (f : Nat → Int32) (p : Nat) : upd f p (f p) = f := by
  funext j
  by_cases c : j = p
  · rw [c, pk_us]
  · rw [pk_un c]
theorem pass_w {p : Nat} (hp : p < 160) (v : Int32) (K : Nat → Int32) : f_X11_pass v (nI p) 1 K = some (v, nI (p + 1), upd K p v) := by
  unfold f_X11_pass
  rw [if_neg (show ¬ (1 : Int32) = 0 by decide), rs_b1_some, if_neg (nI_in (by omega) (by omega)), rs_lt_eq, nI_clamp (by omega), nI_1]
theorem pass_r {p : Nat} (hp : p < 160) (v : Int32) (K : Nat → Int32) : f_X11_pass v (nI p) 0 K = some (K p, nI (p + 1), K) := by
  unfold f_X11_pass
  rw [if_pos rfl, if_neg (nI_in (by omega) (by omega)), rs_b1_some, if_neg (nI_in (by omega) (by omega)), rs_lt_eq, nI_clamp (by omega), nI_1, upd_self]
theorem s_pw1 {b N : Nat} (hb : b + 36 ≤ 160) (hN : 100 < N) (K g : Nat → Int32) : ∃ K2, rs_l4 (f_X11_passAll_L110 1) N K g (nI b) 0 = some (K2, g, nI (b + 36)) ∧ (∀ i, i < 36 → K2 (b + i) = g i) ∧ ∀ q, q < b ∨ b + 36 ≤ q → K2 q = K q := by
  unfold rs_l4
  obtain ⟨r, h1, h2⟩ := rs_loop_inv (body := fun s : (Nat → Int32) × (Nat → Int32) × Int32 × Int32 => f_X11_passAll_L110 1 s.1 s.2.1 s.2.2.1 s.2.2.2) (fun i s => s.2.1 = g ∧ s.2.2.1 = nI (b + i) ∧ s.2.2.2 = nI i ∧ (∀ q, q < i → s.1 (b + q) = g q) ∧ ∀ q, q < b ∨ b + 36 ≤ q → s.1 q = K q) (fun r => r.2.1 = g ∧ r.2.2 = nI (b + 36) ∧ (∀ q, q < 36 → r.1 (b + q) = g q) ∧ ∀ q, q < b ∨ b + 36 ≤ q → r.1 q = K q) 36 (by
    rintro i ⟨u, v, x, z⟩ hi ⟨k1, k2, k3, k4, k5⟩
    dsimp only at k1 k2 k3 k4 k5 ⊢
    subst k1 k2 k3
    unfold f_X11_passAll_L110
    by_cases c : 36 ≤ i
    · have : i = 36 := by omega
      subst this
      exact Or.inr ⟨_, rfl, rfl, rfl, k4, k5⟩
    · rw [if_neg (show ¬ (36 : Int32) ≤ nI i from nI_ge (b := 36) (by omega) (by omega)), if_neg (nI_in (by omega) (by omega)), pass_w (by omega), rs_b3_some, if_neg (nI_in (by omega) (by omega)), nI_clamp (by omega), upd_self, nI_1]
      refine Or.inl ⟨_, rfl, ⟨rfl, rfl, rfl, ?_, ?_⟩, by omega⟩
      · intro q hq
        dsimp only
        by_cases c2 : q = i
        · rw [c2, pk_us]
        · rw [pk_un (by omega)]
          exact k4 q (by omega)
      · intro q hq
        dsimp only
        rw [pk_un (by omega)]
        exact k5 q hq) N 0 (K, g, nI b, 0) (by omega) (by omega) ⟨rfl, rfl, rfl, (fun q hq => by omega), fun q _ => rfl⟩
  obtain ⟨r1, r2, r3⟩ := r
  obtain ⟨w1, w2, w3, w4⟩ := h2
  dsimp only at w1 w2 w3 w4
  subst w1 w2
  exact ⟨r1, h1, w3, w4⟩
theorem s_pr1 {b N : Nat} (hb : b + 36 ≤ 160) (hN : 100 < N) (K g : Nat → Int32) : ∃ g2, rs_l4 (f_X11_passAll_L110 0) N K g (nI b) 0 = some (K, g2, nI (b + 36)) ∧ ∀ i, i < 36 → g2 i = K (b + i) := by
  unfold rs_l4
  obtain ⟨r, h1, h2⟩ := rs_loop_inv (body := fun s : (Nat → Int32) × (Nat → Int32) × Int32 × Int32 => f_X11_passAll_L110 0 s.1 s.2.1 s.2.2.1 s.2.2.2) (fun i s => s.1 = K ∧ s.2.2.1 = nI (b + i) ∧ s.2.2.2 = nI i ∧ ∀ q, q < i → s.2.1 q = K (b + q)) (fun r => r.1 = K ∧ r.2.2 = nI (b + 36) ∧ ∀ q, q < 36 → r.2.1 q = K (b + q)) 36 (by
    rintro i ⟨u, v, x, z⟩ hi ⟨k1, k2, k3, k4⟩
    dsimp only at k1 k2 k3 k4 ⊢
    subst k1 k2 k3
    unfold f_X11_passAll_L110
    by_cases c : 36 ≤ i
    · have : i = 36 := by omega
      subst this
      exact Or.inr ⟨_, rfl, rfl, rfl, k4⟩
    · rw [if_neg (show ¬ (36 : Int32) ≤ nI i from nI_ge (b := 36) (by omega) (by omega)), if_neg (nI_in (by omega) (by omega)), pass_r (by omega), rs_b3_some, if_neg (nI_in (by omega) (by omega)), nI_clamp (by omega), nI_1]
      refine Or.inl ⟨_, rfl, ⟨rfl, rfl, rfl, ?_⟩, by omega⟩
      intro q hq
      dsimp only
      by_cases c2 : q = i
      · rw [c2, pk_us]
      · rw [pk_un (by omega)]
        exact k4 q (by omega)) N 0 (K, g, nI b, 0) (by omega) (by omega) ⟨rfl, rfl, rfl, fun q hq => by omega⟩
  obtain ⟨r1, r2, r3⟩ := r
  obtain ⟨w1, w2, w3⟩ := h2
  dsimp only at w1 w2 w3
  subst w1 w2
  exact ⟨r2, h1, w3⟩
theorem s_pw2 {b N : Nat} (hb : b + 24 ≤ 160) (hN : 100 < N) (K sl sy sc : Nat → Int32) : ∃ K2, rs_l6 (f_X11_passAll_L140 1) N K sl sy sc (nI b) 0 = some (K2, sl, sy, sc, nI (b + 24)) ∧ (∀ i, i < 8 → K2 (b + 3 * i) = sl i ∧ K2 (b + 3 * i + 1) = sy i ∧ K2 (b + 3 * i + 2) = sc i) ∧ ∀ q, q < b ∨ b + 24 ≤ q → K2 q = K q := by
  unfold rs_l6
  obtain ⟨r, h1, h2⟩ := rs_loop_inv (body := fun s : (Nat → Int32) × (Nat → Int32) × (Nat → Int32) × (Nat → Int32) × Int32 × Int32 => f_X11_passAll_L140 1 s.1 s.2.1 s.2.2.1 s.2.2.2.1 s.2.2.2.2.1 s.2.2.2.2.2) (fun i s => s.2 = (sl, sy, sc, nI (b + 3 * i), nI i) ∧ (∀ q, q < i → s.1 (b + 3 * q) = sl q ∧ s.1 (b + 3 * q + 1) = sy q ∧ s.1 (b + 3 * q + 2) = sc q) ∧ ∀ q, q < b ∨ b + 24 ≤ q → s.1 q = K q) (fun r => r.2 = (sl, sy, sc, nI (b + 24)) ∧ (∀ q, q < 8 → r.1 (b + 3 * q) = sl q ∧ r.1 (b + 3 * q + 1) = sy q ∧ r.1 (b + 3 * q + 2) = sc q) ∧ ∀ q, q < b ∨ b + 24 ≤ q → r.1 q = K q) 8 (by
    rintro i ⟨u, s2⟩ hi ⟨k1, k4, k5⟩
    dsimp only at k1 k4 k5 ⊢
    subst k1
    dsimp only
    unfold f_X11_passAll_L140
    by_cases c : 8 ≤ i
    · have : i = 8 := by omega
      subst this
      exact Or.inr ⟨_, rfl, rfl, k4, k5⟩
    · have hg := nI_in (c := i) (N := 8) (by omega) (by omega)
      rw [if_neg (show ¬ (8 : Int32) ≤ nI i from nI_ge (b := 8) (by omega) (by omega)), if_neg hg, pass_w (by omega), rs_b3_some, if_neg hg, if_neg hg, pass_w (by omega), rs_b3_some, if_neg hg, if_neg hg, pass_w (by omega), rs_b3_some, if_neg hg, nI_clamp (n := i) (by omega), upd_self, upd_self, upd_self, nI_1]
      refine Or.inl ⟨_, rfl, ⟨rfl, ?_, ?_⟩, by omega⟩
      · intro q hq
        dsimp only
        by_cases c2 : q = i
        · rw [c2]
          exact ⟨by rw [pk_un (by omega), pk_un (by omega), pk_us], by rw [pk_un (by omega), pk_us], by rw [show b + 3 * i + 2 = b + 3 * i + 1 + 1 by omega, pk_us]⟩
        · obtain ⟨t1, t2, t3⟩ := k4 q (by omega)
          exact ⟨by rw [pk_un (by omega), pk_un (by omega), pk_un (by omega)]; exact t1, by rw [pk_un (by omega), pk_un (by omega), pk_un (by omega)]; exact t2, by rw [pk_un (by omega), pk_un (by omega), pk_un (by omega)]; exact t3⟩
      · intro q hq
        dsimp only
        rw [pk_un (by omega), pk_un (by omega), pk_un (by omega)]
        exact k5 q hq) N 0 (K, sl, sy, sc, nI b, 0) (by omega) (by omega) ⟨rfl, (fun q hq => by omega), fun q _ => rfl⟩
  obtain ⟨r1, r2⟩ := r
  obtain ⟨w1, w3, w4⟩ := h2
  dsimp only at w1 w3 w4
  subst w1
  exact ⟨r1, h1, w3, w4⟩
theorem s_pr2 {b N : Nat} (hb : b + 24 ≤ 160) (hN : 100 < N) (K sl sy sc : Nat → Int32) : ∃ sl2 sy2 sc2, rs_l6 (f_X11_passAll_L140 0) N K sl sy sc (nI b) 0 = some (K, sl2, sy2, sc2, nI (b + 24)) ∧ ∀ i, i < 8 → sl2 i = K (b + 3 * i) ∧ sy2 i = K (b + 3 * i + 1) ∧ sc2 i = K (b + 3 * i + 2) := by
  unfold rs_l6
  obtain ⟨r, h1, h2⟩ := rs_loop_inv (body := fun s : (Nat → Int32) × (Nat → Int32) × (Nat → Int32) × (Nat → Int32) × Int32 × Int32 => f_X11_passAll_L140 0 s.1 s.2.1 s.2.2.1 s.2.2.2.1 s.2.2.2.2.1 s.2.2.2.2.2) (fun i s => s.1 = K ∧ s.2.2.2.2 = (nI (b + 3 * i), nI i) ∧ ∀ q, q < i → s.2.1 q = K (b + 3 * q) ∧ s.2.2.1 q = K (b + 3 * q + 1) ∧ s.2.2.2.1 q = K (b + 3 * q + 2)) (fun r => r.1 = K ∧ r.2.2.2.2 = nI (b + 24) ∧ ∀ q, q < 8 → r.2.1 q = K (b + 3 * q) ∧ r.2.2.1 q = K (b + 3 * q + 1) ∧ r.2.2.2.1 q = K (b + 3 * q + 2)) 8 (by
    rintro i ⟨u, v1, v2, v3, s2⟩ hi ⟨k1, k2, k4⟩
    dsimp only at k1 k2 k4 ⊢
    subst k1 k2
    dsimp only
    unfold f_X11_passAll_L140
    by_cases c : 8 ≤ i
    · have : i = 8 := by omega
      subst this
      exact Or.inr ⟨_, rfl, rfl, rfl, k4⟩
    · have hg := nI_in (c := i) (N := 8) (by omega) (by omega)
      rw [if_neg (show ¬ (8 : Int32) ≤ nI i from nI_ge (b := 8) (by omega) (by omega)), if_neg hg, pass_r (by omega), rs_b3_some, if_neg hg, if_neg hg, pass_r (by omega), rs_b3_some, if_neg hg, if_neg hg, pass_r (by omega), rs_b3_some, if_neg hg, nI_clamp (n := i) (by omega), nI_1]
      refine Or.inl ⟨_, rfl, ⟨rfl, rfl, ?_⟩, by omega⟩
      intro q hq
      dsimp only
      by_cases c2 : q = i
      · rw [c2, pk_us, pk_us, pk_us]
        exact ⟨rfl, rfl, rfl⟩
      · rw [pk_un c2, pk_un c2, pk_un c2]
        exact k4 q (by omega)) N 0 (K, sl, sy, sc, nI b, 0) (by omega) (by omega) ⟨rfl, rfl, fun q hq => by omega⟩
  obtain ⟨r1, r2, r3, r4, r5⟩ := r
  obtain ⟨w1, w2, w3⟩ := h2
  dsimp only at w1 w2 w3
  subst w1 w2
  exact ⟨r2, r3, r4, h1, w3⟩
-- what an image in the reference holds at b
def KI (K : Nat → Int32) (b : Nat) (D : Nat → Nat) (V : Nat → Nat → Nat) (y c : Nat) (sl sy sc : Nat → Int32) : Prop :=
  (∀ i, i < 7 → K (b + i) = nI (D i)) ∧ K (b + 7) = nI y ∧ K (b + 8) = nI c ∧ MS V (fun i => K (b + 9 + i)) ∧ ∀ i, i < 8 → K (b + 45 + 3 * i) = sl i ∧ K (b + 45 + 3 * i + 1) = sy i ∧ K (b + 45 + 3 * i + 2) = sc i
theorem s_imgM {D : Nat → Nat} {V : Nat → Nat → Nat} {g : Nat → Int32} (hM : MS V g) {b y c N : Nat} (hb : b + 69 ≤ 160) (hN : 100 < N) (K sl sy sc : Nat → Int32) :
    ∃ K2, f_X11_passAll N (nI (D 0)) (nI (D 1)) (nI (D 2)) (nI (D 3)) (nI (D 4)) (nI (D 5)) (nI (D 6)) (nI y) (nI c) (nI b) 1 K g sl sy sc = some (nI (D 0), nI (D 1), nI (D 2), nI (D 3), nI (D 4), nI (D 5), nI (D 6), nI y, nI c, nI (b + 69), K2, g, sl, sy, sc) ∧ KI K2 b D V y c sl sy sc ∧ ∀ q, q < b ∨ b + 69 ≤ q → K2 q = K q := by
  unfold f_X11_passAll
  rw [pass_w (by omega), rs_b3_some, pass_w (by omega), rs_b3_some, pass_w (by omega), rs_b3_some, pass_w (by omega), rs_b3_some, pass_w (by omega), rs_b3_some, pass_w (by omega), rs_b3_some, pass_w (by omega), rs_b3_some, pass_w (by omega), rs_b3_some, pass_w (by omega), rs_b3_some]
  generalize hK9 : upd (upd (upd (upd (upd (upd (upd (upd (upd K b (nI (D 0))) (b + 1) (nI (D 1))) (b + 1 + 1) (nI (D 2))) (b + 1 + 1 + 1) (nI (D 3))) (b + 1 + 1 + 1 + 1) (nI (D 4))) (b + 1 + 1 + 1 + 1 + 1) (nI (D 5))) (b + 1 + 1 + 1 + 1 + 1 + 1) (nI (D 6))) (b + 1 + 1 + 1 + 1 + 1 + 1 + 1) (nI y)) (b + 1 + 1 + 1 + 1 + 1 + 1 + 1 + 1) (nI c) = K9
  obtain ⟨K3, a1, a2, a3⟩ := s_pw1 (b := b + 1 + 1 + 1 + 1 + 1 + 1 + 1 + 1 + 1) (N := N) (by omega) hN K9 g
  rw [a1, rs_b3_some]
  obtain ⟨K4, c1, c2, c3⟩ := s_pw2 (b := b + 1 + 1 + 1 + 1 + 1 + 1 + 1 + 1 + 1 + 36) (N := N) (by omega) hN K3 sl sy sc
  rw [c1, rs_b5_some, show b + 1 + 1 + 1 + 1 + 1 + 1 + 1 + 1 + 1 + 36 + 24 = b + 69 by omega]
  have low : ∀ q, q < b + 9 → K4 q = K9 q := fun q hq => (c3 q (by omega)).trans (a3 q (by omega))
  refine ⟨K4, rfl, ⟨?_, ?_, ?_, ?_, ?_⟩, ?_⟩
  · intro i hi
    rw [low _ (by omega), ← hK9]
    rcases (show i = 0 ∨ i = 1 ∨ i = 2 ∨ i = 3 ∨ i = 4 ∨ i = 5 ∨ i = 6 by omega) with rfl | rfl | rfl | rfl | rfl | rfl | rfl
    · rw [pk_un (by omega), pk_un (by omega), pk_un (by omega), pk_un (by omega), pk_un (by omega), pk_un (by omega), pk_un (by omega), pk_un (by omega), Nat.add_zero, pk_us]
    · rw [pk_un (by omega), pk_un (by omega), pk_un (by omega), pk_un (by omega), pk_un (by omega), pk_un (by omega), pk_un (by omega), pk_us]
    · rw [pk_un (by omega), pk_un (by omega), pk_un (by omega), pk_un (by omega), pk_un (by omega), pk_un (by omega), show b + 2 = b + 1 + 1 by omega, pk_us]
    · rw [pk_un (by omega), pk_un (by omega), pk_un (by omega), pk_un (by omega), pk_un (by omega), show b + 3 = b + 1 + 1 + 1 by omega, pk_us]
    · rw [pk_un (by omega), pk_un (by omega), pk_un (by omega), pk_un (by omega), show b + 4 = b + 1 + 1 + 1 + 1 by omega, pk_us]
    · rw [pk_un (by omega), pk_un (by omega), pk_un (by omega), show b + 5 = b + 1 + 1 + 1 + 1 + 1 by omega, pk_us]
    · rw [pk_un (by omega), pk_un (by omega), show b + 6 = b + 1 + 1 + 1 + 1 + 1 + 1 by omega, pk_us]
  · rw [low _ (by omega), ← hK9, pk_un (by omega), show b + 7 = b + 1 + 1 + 1 + 1 + 1 + 1 + 1 by omega, pk_us]
  · rw [low _ (by omega), ← hK9, show b + 8 = b + 1 + 1 + 1 + 1 + 1 + 1 + 1 + 1 by omega, pk_us]
  · intro k hk j hj
    dsimp only
    rw [c3 _ (by omega), show b + 9 + (9 * j + k) = b + 1 + 1 + 1 + 1 + 1 + 1 + 1 + 1 + 1 + (9 * j + k) by omega, a2 _ (by omega)]
    exact hM k hk j hj
  · intro i hi
    rw [show b + 45 + 3 * i = b + 1 + 1 + 1 + 1 + 1 + 1 + 1 + 1 + 1 + 36 + 3 * i by omega]
    exact c2 i hi
  · intro q hq
    rw [c3 q (by omega), a3 q (by omega), ← hK9, pk_un (by omega), pk_un (by omega), pk_un (by omega), pk_un (by omega), pk_un (by omega), pk_un (by omega), pk_un (by omega), pk_un (by omega), pk_un (by omega)]
theorem s_resM {E : Nat → Nat} {U : Nat → Nat → Nat} {b y2 c2 N : Nat} {K tl ty tc : Nat → Int32} (hK : KI K b E U y2 c2 tl ty tc) (hb : b + 69 ≤ 160) (hN : 100 < N) (d0 d1 d2 d3 d4 d5 d6 y c : Int32) (g sl sy sc : Nat → Int32) :
    ∃ g2 sl2 sy2 sc2, f_X11_passAll N d0 d1 d2 d3 d4 d5 d6 y c (nI b) 0 K g sl sy sc = some (nI (E 0), nI (E 1), nI (E 2), nI (E 3), nI (E 4), nI (E 5), nI (E 6), nI y2, nI c2, nI (b + 69), K, g2, sl2, sy2, sc2) ∧ MS U g2 ∧ ∀ i, i < 8 → sl2 i = tl i ∧ sy2 i = ty i ∧ sc2 i = tc i := by
  obtain ⟨k1, k2, k3, k4, k5⟩ := hK
  unfold f_X11_passAll
  rw [pass_r (by omega), rs_b3_some, pass_r (by omega), rs_b3_some, pass_r (by omega), rs_b3_some, pass_r (by omega), rs_b3_some, pass_r (by omega), rs_b3_some, pass_r (by omega), rs_b3_some, pass_r (by omega), rs_b3_some, pass_r (by omega), rs_b3_some, pass_r (by omega), rs_b3_some]
  obtain ⟨g2, a1, a2⟩ := s_pr1 (b := b + 1 + 1 + 1 + 1 + 1 + 1 + 1 + 1 + 1) (N := N) (by omega) hN K g
  rw [a1, rs_b3_some]
  obtain ⟨sl2, sy2, sc2, e1, e2⟩ := s_pr2 (b := b + 1 + 1 + 1 + 1 + 1 + 1 + 1 + 1 + 1 + 36) (N := N) (by omega) hN K sl sy sc
  rw [e1, rs_b5_some, show b + 1 + 1 + 1 + 1 + 1 + 1 + 1 + 1 + 1 + 36 + 24 = b + 69 by omega]
  have i0 := k1 0 (by omega)
  have i1 := k1 1 (by omega)
  have i2 := k1 2 (by omega)
  have i3 := k1 3 (by omega)
  have i4 := k1 4 (by omega)
  have i5 := k1 5 (by omega)
  have i6 := k1 6 (by omega)
  have i0' : K b = nI (E 0) := i0
  have i2' : K (b + 1 + 1) = nI (E 2) := i2
  have i3' : K (b + 1 + 1 + 1) = nI (E 3) := i3
  have i4' : K (b + 1 + 1 + 1 + 1) = nI (E 4) := i4
  have i5' : K (b + 1 + 1 + 1 + 1 + 1) = nI (E 5) := i5
  have i6' : K (b + 1 + 1 + 1 + 1 + 1 + 1) = nI (E 6) := i6
  have i7' : K (b + 1 + 1 + 1 + 1 + 1 + 1 + 1) = nI y2 := k2
  have i8' : K (b + 1 + 1 + 1 + 1 + 1 + 1 + 1 + 1) = nI c2 := k3
  rw [i0', i1, i2', i3', i4', i5', i6', i7', i8']
  refine ⟨g2, sl2, sy2, sc2, rfl, ?_, ?_⟩
  · intro k hk j hj
    rw [a2 _ (by omega)]
    exact k4 k hk j hj
  · intro i hi
    obtain ⟨t1, t2, t3⟩ := e2 i hi
    obtain ⟨u1, u2, u3⟩ := k5 i hi
    exact ⟨t1.trans u1, t2.trans u2, t3.trans u3⟩
-- the class: a world taken from a world
theorem s_worldX {D : Nat → Nat} {V : Nat → Nat → Nat} {f : Nat → Int32} (hX : XS V f) {N : Nat} (hN : 100 < N) (y c : Int32) (f0 sl sl0 sy sy0 sc sc0 : Nat → Int32) :
    ∃ f2 sl2 sy2 sc2, f_X9_takeFrom N y (nI (D 0)) (nI (D 1)) (nI (D 2)) (nI (D 3)) (nI (D 4)) (nI (D 5)) (nI (D 6)) f f0 c sl sl0 sy sy0 sc sc0 = some (y, nI (D 0), nI (D 1), nI (D 2), nI (D 3), nI (D 4), nI (D 5), nI (D 6), f2, c, sl2, sy2, sc2) ∧ XS V f2 ∧ (∀ j, j < 8 → sl2 j = sl j) ∧ (∀ j, j < 8 → sy2 j = sy j) ∧ ∀ j, j < 8 → sc2 j = sc j := by
  unfold f_X9_takeFrom f_X4_takeFrom f_X5_takeFrom
  obtain ⟨f2, a1, a2⟩ := s_takeX hX f0 (N := N) (by omega)
  obtain ⟨sl2, b1, b2⟩ := s_copy (n := 8) (N := N) (by omega) (by omega) sl sl0
  obtain ⟨sy2, c1, c2⟩ := s_copy (n := 8) (N := N) (by omega) (by omega) sy sy0
  obtain ⟨sc2, d1, d2⟩ := s_copy (n := 8) (N := N) (by omega) (by omega) sc sc0
  rw [a1, b1, c1, d1]
  exact ⟨f2, sl2, sy2, sc2, rfl, a2, b2, c2, d2⟩
