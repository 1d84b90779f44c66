theorem rs_b17_some {a1 a2 a3 a4 a5 a6 a7 a8 a9 a10 a11 a12 a13 a14 a15 a16 a17 ζ : Type} (x1 : a1) (x2 : a2) (x3 : a3) (x4 : a4) (x5 : a5) (x6 : a6) (x7 : a7) (x8 : a8) (x9 : a9) (x10 : a10) (x11 : a11) (x12 : a12) (x13 : a13) (x14 : a14) (x15 : a15) (x16 : a16) (x17 : a17) (k : a1 → a2 → a3 → a4 → a5 → a6 → a7 → a8 → a9 → a10 → a11 → a12 → a13 → a14 → a15 → a16 → a17 → Option ζ) : rs_b17 (some (x1, x2, x3, x4, x5, x6, x7, x8, x9, x10, x11, x12, x13, x14, x15, x16, x17)) k = k x1 x2 x3 x4 x5 x6 x7 x8 x9 x10 x11 x12 x13 x14 x15 x16 x17 := rfl
theorem s_leaves {V : Nat → Nat → Nat} {f : Nat → Int32} (hM : MS V f) (b : Nat → Int32) {N : Nat} (hN : 10 < N) : ∃ b2, rs_l2 (f_X11_refusal_L20 f) N b 0 = some b2 ∧ ∀ k, k < 9 → b2 k = nI (V 2 k) := by
  unfold rs_l2
  obtain ⟨r, h1, h2⟩ := rs_loop_inv (body := fun s : (Nat → Int32) × Int32 => f_X11_refusal_L20 f s.1 s.2) (fun i s => s.2 = nI i ∧ ∀ k, k < i → s.1 k = nI (V 2 k)) (fun g => ∀ k, k < 9 → g k = nI (V 2 k)) 9 (by
    rintro i ⟨g, x⟩ hi ⟨hx, hg⟩
    dsimp only at hx hg ⊢
    subst hx
    unfold f_X11_refusal_L20
    by_cases hc : 9 ≤ i
    · have : i = 9 := by omega
      subst this
      exact Or.inr ⟨g, rfl, hg⟩
    · rw [if_neg (show ¬ (9 : Int32) ≤ nI i from nI_ge (b := 9) (by omega) (by omega)), s_at2, rs_b1_some, if_neg (nI_in (by omega) (by omega)), if_neg (nI_in (by omega) (by omega)), nI_clamp (n := 9 * 2 + i) (by omega), nI_clamp (n := i) (by omega), hM i (by omega) 2 (by omega), nI_1]
      refine Or.inl ⟨_, rfl, ⟨rfl, ?_⟩, by omega⟩
      intro k hk
      dsimp only
      by_cases hki : k = i
      · subst hki; rw [pk_us]
      · rw [pk_un hki]; exact hg k (by omega)) N 0 (b, 0) (by omega) (by omega) ⟨rfl, fun k hk => by omega⟩
  rw [h1]
  exact ⟨r, rfl, h2⟩
theorem s_tp {D : Nat → Nat} (h : sd_ok D) {V : Nat → Nat → Nat} (hV : vok V) {f g : Nat → Int32} (hX : XS V f) (hM : MS V g) {N : Nat} (hN : 200 < N) {y : Nat} (hy : y < 2 ^ 22)
    {S : Nat → Nat} (hS : ∀ j, j < 60 → S j < 65536) {sg pa : Nat → Int32} (hsg : ∀ j, j < 60 → sg j = nI (S j)) (hpa : ∀ j, j < 60 → pa j = nI (S j)) {c : Nat} (hc : c ≤ 60)
    (t1 t2 t3 t4 t5 t6 t7 t8 t9 t10 t11 t12 t13 t14 : Int32) (a1 a2 : Nat → Int32) (m1 m2 m3 m4 m5 m6 : Int32) (u1 u2 u3 u4 b1 b2 b3 : Nat → Int32) :
    (∃ q w1 w2 w3 w4, f_X10_tellPad N (nI y) (nI (D 0)) (nI (D 1)) (nI (D 2)) (nI (D 3)) (nI (D 4)) (nI (D 5)) (nI (D 6)) (nI c) sg t1 t2 t3 t4 t5 t6 t7 t8 t9 t10 t11 t12 t13 t14 f a1 a2 = some (-5, t1, t2, t3, t4, t5, t6, t7, t8, t9, t10, t11, t12, t13, t14, a1, a2) ∧ f_X11_refusal N (nI (D 0)) (nI (D 1)) (nI (D 2)) (nI (D 3)) (nI (D 4)) (nI (D 5)) (nI (D 6)) (nI y) (nI c) m1 m2 m3 m4 m5 m6 pa u1 u2 u3 u4 g b1 b2 b3 = some (-5, nI y, q, m1, m2, m3, m4, m5, m6, w1, w2, w3, w4, g, b1, b2, b3)) ∨
    (∃ (a F : Nat) (B W : Int32) (U : Nat → Nat → Nat) (y2 hs : Nat) (hu : Nat → Nat) (f2 g2 w1 w2 w3 w4 g3 d1 d2 d3 : Nat → Int32), F ≤ a ∧ a ≤ 60 ∧ y ≤ y2 ∧ y2 ≤ y + 600 ∧ fin D S (V, y, 0, fun _ => 0) a F B W ∧ U = (tr D S (V, y, 0, fun _ => 0) F).1 ∧ y2 = (tr D S (V, y, 0, fun _ => 0) F).2.1 ∧ hs = (tr D S (V, y, 0, fun _ => 0) F).2.2.1 ∧ (∀ k, k < a → gd (D 0) S k) ∧ (∀ k, k < a → rcd S w1 w2 w3 w4 k) ∧ vok U ∧ XS U f2 ∧ MS V g3 ∧ (∀ k, k < 9 → g2 k = nI (hu k)) ∧ (∀ k, k < 9 → d2 k = nI (hu k)) ∧ (∀ k, k < 9 → d3 k = nI (U 2 k)) ∧
      f_X10_tellPad N (nI y) (nI (D 0)) (nI (D 1)) (nI (D 2)) (nI (D 3)) (nI (D 4)) (nI (D 5)) (nI (D 6)) (nI c) sg t1 t2 t3 t4 t5 t6 t7 t8 t9 t10 t11 t12 t13 t14 f a1 a2 = some (if B = -6 then 0 else -3, nI y2, nI (y2 - y), nI hs, nI F, B, W, 0, nI (D 0), nI (D 1), nI (D 2), nI (D 3), nI (D 4), nI (D 5), nI (D 6), f2, g2) ∧ f_X11_refusal N (nI (D 0)) (nI (D 1)) (nI (D 2)) (nI (D 3)) (nI (D 4)) (nI (D 5)) (nI (D 6)) (nI y) (nI c) m1 m2 m3 m4 m5 m6 pa u1 u2 u3 u4 g b1 b2 b3 = some (if B = -6 then -6 else -3, nI y, nI a, nI hs, nI y, B, W, nI (y2 - y), nI y2, w1, w2, w3, w4, g3, d1, d2, d3)) := by
  obtain ⟨r, p1, p2⟩ := s_faultX h.1 h.2.1 hS hsg hc (N := N) (by omega)
  obtain ⟨r2, q, w1, w2, w3, w4, p3, p4, p5⟩ := s_faultM h.1 h.2.1 hS hpa hc (N := N) (by omega) u1 u2 u3 u4
  have := fok_un p4 p2
  subst this
  unfold f_X10_tellPad f_X11_refusal
  rw [p1, p3, rs_b1_some, rs_b6_some]
  by_cases e6 : r2 = -6
  · right
    obtain ⟨a, rfl, hsa, hrc⟩ := p5 e6
    have hpd : pdu (D 0) S c = some 0 := by
      rcases p4 with ⟨i, z1, z2, z3, z4⟩ | ⟨d, z1, z2⟩
      · rw [e6] at z4
        exact absurd z4.symm (nI_m6 (by omega))
      · by_cases d0 : d = 0
        · subst d0; exact z1
        · rw [if_neg d0, e6] at z2
          exact absurd z2.symm (nI_m6 (by omega))
    obtain ⟨a', v1, v2, -, -⟩ := pars hpd
    have haa : a' = a := by
      rcases Nat.lt_trichotomy a' a with z | z | z
      · have := st_mono S z
        have : 1 ≤ (if isY (S (st S a')) = true then 1 else 3) := by split <;> omega
        omega
      · exact z
      · have := st_mono S z
        have : 1 ≤ (if isY (S (st S a)) = true then 1 else 3) := by split <;> omega
        omega
    subst haa
    have ha60 : a' ≤ 60 := by
      have := st_ge S a'
      omega
    obtain ⟨f2, g2, x1, x2, x3⟩ := s_beginS (D := D) hX a1 a2 (N := N) (by omega) (nI y)
    obtain ⟨b4, b5, x4, x5, x6⟩ := s_keepNow hM (nI y) b1 b2 (N := N) (by omega)
    obtain ⟨F, B, W, f3, g3, k1, k2, k3, k4⟩ := s_tell h hV hy hN hS hsg hc hsa v2 x2 x3
    obtain ⟨F2, B2, W2, f4, g4, l1, l2, l3, l4⟩ := s_goAges h hV hy hN ha60 v2 hrc hM 0 (hu := fun _ => 0) x6
    obtain ⟨e1, e2, e3⟩ := fin_un (fun _ => rfl) k1 l1
    subst e1 e2 e3
    obtain ⟨b6, n1, n2⟩ := s_leaves l3 b3 (N := N) (by omega)
    obtain ⟨g5, n3, n4⟩ := s_putBack (tr_sx D S (V, y, 0, fun _ => 0) F) l3 x5 (nI y) (N := N) (by omega)
    have hF : F ≤ a' := by
      rcases k1 with ⟨z1, -⟩ | ⟨kb, z1, z2, -⟩ <;> omega
    have hB : B = -6 ∨ 0 ≤ B := by
      rcases k1 with ⟨-, -, z3, -⟩ | ⟨kb, z1, z2, z3, z4, z5, z6⟩
      · exact Or.inl z3
      · exact Or.inr (by rw [z5]; exact nI_pos' (by omega))
    obtain ⟨t1, t2⟩ := tr_y D S (V, y, 0, fun _ => 0) F
    refine ⟨a', F, B, W, _, _, _, _, f3, g3, w1, w2, w3, w4, g5, b4, g4, b6, hF, ha60, t1, by dsimp only at t2; omega, k1, rfl, rfl, rfl, v2, hrc, tr_ok (by exact hV) F, k3, n4, k4, l4, n2, ?_, ?_⟩
    · rw [if_pos e6, x1, rs_b16_some, k2, rs_b8_some]
      by_cases eb : B = -6
      · rw [if_pos eb, if_pos eb]
      · rw [if_neg eb, if_neg eb]
    · rw [e6, if_pos (show (-6 : Int32) < 0 by decide), x4, rs_b4_some, show (0 : Int32) = nI 0 from rfl, l2, rs_b7_some]
      rw [show nI 0 = (0 : Int32) from rfl, n1, rs_b1_some, n3, rs_b2_some]
      by_cases eb : B = -6
      · rw [if_pos (by rw [eb]; decide), if_pos eb]
      · rw [if_neg (fun z => by
          rcases hB with z1 | z1
          · exact eb z1
          · rw [pn_lt] at z; rw [pn_le] at z1; omega), if_neg eb]
  · left
    have hnn : ¬ r2 < 0 := by
      rcases p4 with ⟨i, z1, z2, z3, z4⟩ | ⟨d, z1, z2⟩
      · rw [z4]; exact nI_pos (by omega)
      · by_cases d0 : d = 0
        · rw [if_pos d0] at z2
          exact absurd z2 e6
        · rw [if_neg d0] at z2
          rw [z2]; exact nI_pos (by omega)
    rw [if_neg e6, if_neg hnn]
    exact ⟨q, w1, w2, w3, w4, rfl, rfl⟩
theorem e_judge {D : Nat → Nat} (h : sd_ok D) {V : Nat → Nat → Nat} (hV : vok V) {f g : Nat → Int32} (hX : XS V f) (hM : MS V g) {N : Nat} (hN : 200 < N) {y : Nat} (hy : y < 2 ^ 22)
    {S : Nat → Nat} (hS : ∀ j, j < 60 → S j < 65536) {sg pa : Nat → Int32} (hsg : ∀ j, j < 60 → sg j = nI (S j)) (hpa : ∀ j, j < 60 → pa j = nI (S j)) {c : Nat} (hc : c ≤ 60) (p1 : Int32)
    (t1 t2 t3 t4 t5 t6 t7 t8 t9 t10 t11 t12 t13 t14 : Int32) (a1 a2 : Nat → Int32) (m0 m1 m2 m3 m4 m5 m6 : Int32) (u1 u2 u3 u4 b1 b2 b3 : Nat → Int32) :
    ∃ r o1 o2 o3 o4 o5 o6 o7 o8 o9 o10 o11 o12 o13 o14 c1 c2 n1 n2 n3 n4 n5 n6 n7 w1 w2 w3 w4 g3 d1 d2 d3, f_X10_judge N p1 (nI y) (nI (D 0)) (nI (D 1)) (nI (D 2)) (nI (D 3)) (nI (D 4)) (nI (D 5)) (nI (D 6)) (nI c) sg t1 t2 t3 t4 t5 t6 t7 t8 t9 t10 t11 t12 t13 t14 f a1 a2 = some (r, o1, o2, o3, o4, o5, o6, o7, o8, o9, o10, o11, o12, o13, o14, c1, c2) ∧ f_X11_judge N p1 (nI (D 0)) (nI (D 1)) (nI (D 2)) (nI (D 3)) (nI (D 4)) (nI (D 5)) (nI (D 6)) (nI y) (nI c) m0 m1 m2 m3 m4 m5 m6 pa u1 u2 u3 u4 g b1 b2 b3 = some (r, nI y, n1, n2, n3, n4, n5, n6, n7, w1, w2, w3, w4, g3, d1, d2, d3) ∧ MS V g3 := by
  unfold f_X10_judge f_X11_judge
  simp only [s_within, s_in, rs_b1_some, b2_0]
  cases h1 : ins p1 0 3 with
  | false =>
    have e1 : (decide ((0 : Int32).toInt ≤ p1.toInt) && decide (p1.toInt ≤ (3 : Int32).toInt)) = false := h1
    have e2 : (decide ((0 : Int64).toInt ≤ p1.toInt) && decide (p1.toInt ≤ (3 : Int64).toInt)) = false := h1
    rw [e1, e2]
    exact ⟨_, _, _, _, _, _, _, _, _, _, _, _, _, _, _, _, _, _, _, _, _, _, _, _, _, _, _, _, _, _, _, _, rfl, rfl, hM⟩
  | true =>
    have e1 : (decide ((0 : Int32).toInt ≤ p1.toInt) && decide (p1.toInt ≤ (3 : Int32).toInt)) = true := h1
    have e2 : (decide ((0 : Int64).toInt ≤ p1.toInt) && decide (p1.toInt ≤ (3 : Int64).toInt)) = true := h1
    rw [e1, e2]
    simp only [itf]
    obtain ⟨j, hj, rfl⟩ := ins_of (b := 3) h1
    rcases s_tp h hV hX hM hN hy hS hsg hpa hc t1 t2 t3 t4 t5 t6 t7 t8 t9 t10 t11 t12 t13 t14 a1 a2 m1 m2 m3 m4 m5 m6 u1 u2 u3 u4 b1 b2 b3 with ⟨q, w1, w2, w3, w4, e1, e2⟩ | ⟨a, F, B, W, U, y2, hs, hu, f2, g2, w1, w2, w3, w4, g3, d1, d2, d3, -, -, -, -, hfin, -, -, -, -, -, -, -, hM3, -, -, -, e1, e2⟩
    · rw [e1, e2, rs_b17_some, rs_b17_some, if_pos rfl, if_pos rfl]
      exact ⟨_, _, _, _, _, _, _, _, _, _, _, _, _, _, _, _, _, _, _, _, _, _, _, _, _, _, _, _, _, _, _, _, rfl, rfl, hM⟩
    · rw [e1, e2, rs_b17_some, rs_b17_some]
      by_cases eb : B = -6
      · rw [if_pos eb, if_pos eb]
        rcases (show j = 0 ∨ j = 1 ∨ j = 2 ∨ j = 3 by omega) with rfl | rfl | rfl | rfl
        · exact ⟨_, _, _, _, _, _, _, _, _, _, _, _, _, _, _, _, _, _, _, _, _, _, _, _, _, _, _, _, _, _, _, _, rfl, rfl, hM3⟩
        · exact ⟨_, _, _, _, _, _, _, _, _, _, _, _, _, _, _, _, _, _, _, _, _, _, _, _, _, _, _, _, _, _, _, _, rfl, rfl, hM3⟩
        · exact ⟨_, _, _, _, _, _, _, _, _, _, _, _, _, _, _, _, _, _, _, _, _, _, _, _, _, _, _, _, _, _, _, _, rfl, rfl, hM3⟩
        · exact ⟨_, _, _, _, _, _, _, _, _, _, _, _, _, _, _, _, _, _, _, _, _, _, _, _, _, _, _, _, _, _, _, _, rfl, rfl, hM3⟩
      · rw [if_neg eb, if_neg eb]
        rcases (show j = 0 ∨ j = 1 ∨ j = 2 ∨ j = 3 by omega) with rfl | rfl | rfl | rfl
        · exact ⟨_, _, _, _, _, _, _, _, _, _, _, _, _, _, _, _, _, _, _, _, _, _, _, _, _, _, _, _, _, _, _, _, rfl, rfl, hM3⟩
        · exact ⟨_, _, _, _, _, _, _, _, _, _, _, _, _, _, _, _, _, _, _, _, _, _, _, _, _, _, _, _, _, _, _, _, rfl, rfl, hM3⟩
        · exact ⟨_, _, _, _, _, _, _, _, _, _, _, _, _, _, _, _, _, _, _, _, _, _, _, _, _, _, _, _, _, _, _, _, rfl, rfl, hM3⟩
        · exact ⟨_, _, _, _, _, _, _, _, _, _, _, _, _, _, _, _, _, _, _, _, _, _, _, _, _, _, _, _, _, _, _, _, rfl, rfl, hM3⟩
theorem e_behind {D : Nat → Nat} (h : sd_ok D) {V : Nat → Nat → Nat} (hV : vok V) {f g : Nat → Int32} (hX : XS V f) (hM : MS V g) {N : Nat} (hN : 200 < N) {y : Nat} (hy : y < 2 ^ 22)
    {S : Nat → Nat} (hS : ∀ j, j < 60 → S j < 65536) {sg pa : Nat → Int32} (hsg : ∀ j, j < 60 → sg j = nI (S j)) (hpa : ∀ j, j < 60 → pa j = nI (S j)) {c : Nat} (hc : c ≤ 60) (p1 p2 : Int32)
    (t1 t2 t3 t4 t5 t6 t7 t8 t9 t10 t11 t12 t13 t14 : Int32) (a1 a2 : Nat → Int32) (m0 m1 m2 m3 m4 m5 m6 : Int32) (u1 u2 u3 u4 b1 b2 b3 : Nat → Int32) :
    ∃ r o1 o2 o3 o4 o5 o6 o7 o8 o9 o10 o11 o12 o13 o14 c1 c2 n1 n2 n3 n4 n5 n6 n7 w1 w2 w3 w4 g3 d1 d2 d3, f_X10_behind N p1 p2 (nI y) (nI (D 0)) (nI (D 1)) (nI (D 2)) (nI (D 3)) (nI (D 4)) (nI (D 5)) (nI (D 6)) (nI c) sg t1 t2 t3 t4 t5 t6 t7 t8 t9 t10 t11 t12 t13 t14 f a1 a2 = some (r, o1, o2, o3, o4, o5, o6, o7, o8, o9, o10, o11, o12, o13, o14, c1, c2) ∧ f_X11_behind N p1 p2 (nI (D 0)) (nI (D 1)) (nI (D 2)) (nI (D 3)) (nI (D 4)) (nI (D 5)) (nI (D 6)) (nI y) (nI c) m0 m1 m2 m3 m4 m5 m6 pa u1 u2 u3 u4 g b1 b2 b3 = some (r, nI y, n1, n2, n3, n4, n5, n6, n7, w1, w2, w3, w4, g3, d1, d2, d3) ∧ MS V g3 := by
  have hb9 := h.2.1
  unfold f_X10_behind f_X11_behind
  rw [s_hasLand p1 h.1 h.2.1, s_isLand p1 h.1 h.2.1]
  simp only [s_within, s_in, rs_b1_some, b2_0]
  cases h0 : isl p1 (D 0) with
  | false => exact ⟨_, _, _, _, _, _, _, _, _, _, _, _, _, _, _, _, _, _, _, _, _, _, _, _, _, _, _, _, _, _, _, _, rfl, rfl, hM⟩
  | true =>
    cases h1 : ins p2 0 2 with
    | false =>
      have e1 : (decide ((0 : Int32).toInt ≤ p2.toInt) && decide (p2.toInt ≤ (2 : Int32).toInt)) = false := h1
      have e2 : (decide ((0 : Int64).toInt ≤ p2.toInt) && decide (p2.toInt ≤ (2 : Int64).toInt)) = false := h1
      rw [e1, e2]
      exact ⟨_, _, _, _, _, _, _, _, _, _, _, _, _, _, _, _, _, _, _, _, _, _, _, _, _, _, _, _, _, _, _, _, rfl, rfl, hM⟩
    | true =>
      have e1 : (decide ((0 : Int32).toInt ≤ p2.toInt) && decide (p2.toInt ≤ (2 : Int32).toInt)) = true := h1
      have e2 : (decide ((0 : Int64).toInt ≤ p2.toInt) && decide (p2.toInt ≤ (2 : Int64).toInt)) = true := h1
      rw [e1, e2]
      simp only [itf]
      obtain ⟨k, hk, rfl⟩ := isl_of h0
      obtain ⟨j, hj, rfl⟩ := ins_of (b := 2) h1
      rcases s_tp h hV hX hM hN hy hS hsg hpa hc t1 t2 t3 t4 t5 t6 t7 t8 t9 t10 t11 t12 t13 t14 a1 a2 m1 m2 m3 m4 m5 m6 u1 u2 u3 u4 b1 b2 b3 with ⟨q, w1, w2, w3, w4, e1, e2⟩ | ⟨a, F, B, W, U, y2, hs, hu, f2, g2, w1, w2, w3, w4, g3, d1, d2, d3, -, -, hy1, hy2, hfin, -, -, -, -, -, hU, hXU, hM3, hg2, hd2, hd3, e1, e2⟩
      · rw [e1, e2, rs_b17_some, rs_b17_some, if_neg (show ¬ (-5 : Int32) = -6 by decide)]
        exact ⟨_, _, _, _, _, _, _, _, _, _, _, _, _, _, _, _, _, _, _, _, _, _, _, _, _, _, _, _, _, _, _, _, rfl, rfl, hM⟩
      · rw [e1, e2, rs_b17_some, rs_b17_some]
        by_cases eb : B = -6
        · rw [if_pos eb, if_pos eb, if_pos rfl, if_pos rfl, s_of2 hXU (by omega), rs_b1_some, s_atA g2 (n := 9) (by omega) (by omega), rs_b1_some, s_isDark h (by omega) (by omega), rs_b1_some, s_isLit h (by omega) (by omega), rs_b1_some, if_neg (nI_in (by omega) (by omega)), nI_clamp (n := k) (by omega), hd3 k (by omega), hg2 k (by omega), hd2 k (by omega), if_neg (gI (c := k) (N := 9) (by omega) (by omega))]
          rcases (show j = 0 ∨ j = 1 ∨ j = 2 by omega) with rfl | rfl | rfl
          · exact ⟨_, _, _, _, _, _, _, _, _, _, _, _, _, _, _, _, _, _, _, _, _, _, _, _, _, _, _, _, _, _, _, _, rfl, rfl, hM3⟩
          · exact ⟨_, _, _, _, _, _, _, _, _, _, _, _, _, _, _, _, _, _, _, _, _, _, _, _, _, _, _, _, _, _, _, _, rfl, rfl, hM3⟩
          · cases sd_dark D k y2
            · exact ⟨_, _, _, _, _, _, _, _, _, _, _, _, _, _, _, _, _, _, _, _, _, _, _, _, _, _, _, _, _, _, _, _, rfl, rfl, hM3⟩
            · exact ⟨_, _, _, _, _, _, _, _, _, _, _, _, _, _, _, _, _, _, _, _, _, _, _, _, _, _, _, _, _, _, _, _, rfl, rfl, hM3⟩
        · rw [if_neg eb, if_neg eb, if_neg (show ¬ (-3 : Int32) = 0 by decide), if_neg (show ¬ (-3 : Int32) = -6 by decide)]
          exact ⟨_, _, _, _, _, _, _, _, _, _, _, _, _, _, _, _, _, _, _, _, _, _, _, _, _, _, _, _, _, _, _, _, rfl, rfl, hM3⟩
theorem e_done {D : Nat → Nat} (h : sd_ok D) {V : Nat → Nat → Nat} (hV : vok V) {f g : Nat → Int32} (hX : XS V f) (hM : MS V g) {N : Nat} (hN : 200 < N) {y : Nat} (hy : y < 2 ^ 22)
    {S : Nat → Nat} (hS : ∀ j, j < 60 → S j < 65536) {sg pa : Nat → Int32} (hsg : ∀ j, j < 60 → sg j = nI (S j)) (hpa : ∀ j, j < 60 → pa j = nI (S j)) {c : Nat} (hc : c ≤ 60)
    (t1 t2 t3 t4 t5 t6 t7 t8 t9 t10 t11 t12 t13 t14 : Int32) (a1 a2 : Nat → Int32) (m1 m2 m3 m4 m5 m6 : Int32) (u1 u2 u3 u4 b1 b2 b3 : Nat → Int32) :
    ∃ r U y2 q2 f3 o1 o2 o3 o4 o5 o6 o7 o8 o9 o10 o11 o12 o13 o14 c1 c2 n1 n2 n3 n4 n5 n6 n7 w1 w2 w3 w4 g3 d1 d2 d3, f_X10_done N (nI y) (nI (D 0)) (nI (D 1)) (nI (D 2)) (nI (D 3)) (nI (D 4)) (nI (D 5)) (nI (D 6)) (nI c) sg t1 t2 t3 t4 t5 t6 t7 t8 t9 t10 t11 t12 t13 t14 f a1 a2 = some (r, nI y2, nI q2, o1, o2, o3, o4, o5, o6, o7, o8, o9, o10, o11, o12, o13, o14, f3, c1, c2) ∧ f_X11_done N (nI (D 0)) (nI (D 1)) (nI (D 2)) (nI (D 3)) (nI (D 4)) (nI (D 5)) (nI (D 6)) (nI y) (nI c) m1 m2 m3 m4 m5 m6 pa u1 u2 u3 u4 g b1 b2 b3 = some (r, nI y2, nI q2, n1, n2, n3, n4, n5, n6, n7, w1, w2, w3, w4, g3, d1, d2, d3) ∧ vok U ∧ XS U f3 ∧ MS U g3 ∧ y2 ≤ y + 600 ∧ q2 ≤ 60 := by
  unfold f_X10_done f_X11_done
  rcases s_tp h hV hX hM hN hy hS hsg hpa hc t1 t2 t3 t4 t5 t6 t7 t8 t9 t10 t11 t12 t13 t14 a1 a2 m1 m2 m3 m4 m5 m6 u1 u2 u3 u4 b1 b2 b3 with ⟨q, w1, w2, w3, w4, e1, e2⟩ | ⟨a, F, B, W, U, y2, hs, hu, f2, g2, w1, w2, w3, w4, g3, d1, d2, d3, hF, ha60, hy1, hy2, hfin, hU1, hU2, hU3, hgd, hrc, hU, hXU, hM3, hg2, hd2, hd3, e1, e2⟩
  · rw [e1, e2, rs_b17_some, rs_b17_some, if_neg (show ¬ (-5 : Int32) = -6 by decide), if_neg (show ¬ (-5 : Int32) = 0 by decide)]
    exact ⟨_, V, y, c, f, _, _, _, _, _, _, _, _, _, _, _, _, _, _, _, _, _, _, _, _, _, _, _, _, _, _, _, _, _, _, _, rfl, rfl, hV, hX, hM, by omega, hc⟩
  · rw [e1, e2, rs_b17_some, rs_b17_some]
    by_cases eb : B = -6
    · rw [if_pos eb, if_pos eb, if_pos rfl, if_pos rfl]
      obtain ⟨f3, k1, k2⟩ := s_takeX hXU f (N := N) (by omega)
      obtain ⟨F2, B2, W2, f4, g4, l1, l2, l3, l4⟩ := s_goAges h hV hy hN ha60 hgd hrc hM3 hs (hu := hu) hd2
      obtain ⟨x1, x2, x3⟩ := fin_un (fun k => bw_ind D S V y 0 hs (fun _ => 0) hu k) hfin l1
      subst x1 x2 x3
      have hFa : F = a := by
        rcases hfin with ⟨z1, -⟩ | ⟨kb, z1, z2, z3, z4, z5, z6⟩
        · exact z1
        · rw [eb] at z5
          exact absurd z5.symm (nI_m6 (by omega))
      obtain ⟨i1, i2⟩ := tr_ind D S V y 0 hs (fun _ => 0) hu F
      rw [k1, rs_b1_some, l2, rs_b7_some]
      rw [← i2, ← hU2, ← hFa]
      rw [← i1, ← hU1] at l3
      exact ⟨_, U, y2, 0, f3, _, _, _, _, _, _, _, _, _, _, _, _, _, _, _, _, _, _, _, _, _, _, _, _, _, _, _, _, _, _, _, rfl, rfl, hU, k2, l3, hy2, by omega⟩
    · rw [if_neg eb, if_neg eb, if_neg (show ¬ (-3 : Int32) = 0 by decide), if_neg (show ¬ (-3 : Int32) = -6 by decide)]
      exact ⟨_, V, y, c, f, _, _, _, _, _, _, _, _, _, _, _, _, _, _, _, _, _, _, _, _, _, _, _, _, _, _, _, _, _, _, _, rfl, rfl, hV, hX, hM3, by omega, hc⟩
