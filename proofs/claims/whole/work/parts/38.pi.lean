def wn (V : Nat → Nat → Nat) (a b v : Nat) : Nat := if a = b then 1 else if V 2 a < v then 2 else if V 3 b < V 2 b + v then 3 else 0
def ld (V : Nat → Nat → Nat) (a b v : Nat) : Nat → Nat → Nat := if wn V a b v = 0 then vup (vup V 2 a (V 2 a - v)) 2 b (V 2 b + v) else V
theorem ld_sx (V : Nat → Nat → Nat) (a b v : Nat) : sx V (ld V a b v) := by
  unfold ld
  split
  · exact sx_tr (sx_vup V a _) (sx_vup _ b _)
  · exact sx_rf V
theorem ld_ok {V : Nat → Nat → Nat} (hV : vok V) (a b v : Nat) : vok (ld V a b v) := by
  unfold ld
  split
  · rename_i hw
    have hab : a ≠ b := fun e => by unfold wn at hw; rw [if_pos e] at hw; omega
    have hle : ¬ V 3 b < V 2 b + v := fun c => by
      unfold wn at hw
      rw [if_neg hab] at hw
      by_cases c2 : V 2 a < v
      · rw [if_pos c2] at hw; omega
      · rw [if_neg c2, if_pos c] at hw; omega
    intro k hk
    obtain ⟨v1, v2, v3, v4⟩ := hV k hk
    refine ⟨by rw [vup_n _ (by omega), vup_n _ (by omega)]; exact v1, by rw [vup_n _ (by omega), vup_n _ (by omega)]; exact v2, by rw [vup_n _ (by omega), vup_n _ (by omega)]; exact v3, ?_⟩
    rw [vup_n (j := 2) (a := 3) _ (by omega), vup_n (j := 2) (a := 3) _ (by omega)]
    by_cases hkb : k = b
    · subst hkb
      rw [vup_s]
      omega
    · rw [vup_n _ (by omega)]
      by_cases hka : k = a
      · subst hka
        rw [vup_s]
        omega
      · rw [vup_n _ (by omega)]
        exact v4
  · exact hV
theorem s_lend {V : Nat → Nat → Nat} (hV : vok V) {f : Nat → Int32} (hX : XS V f) {a b v : Nat} (ha : a < 9) (hb : b < 9) (hv : v ≤ 9) : ∃ f2, f_X6_lend (nI a) (nI b) (nI v) f = some (nI (wn V a b v), f2) ∧ XS (ld V a b v) f2 := by
  obtain ⟨v1, v2, v3, v4⟩ := hV a ha
  obtain ⟨w1, w2, w3, w4⟩ := hV b hb
  unfold f_X6_lend ld wn
  by_cases c1 : a = b
  · subst c1
    rw [if_pos rfl, if_pos rfl, if_neg (by omega)]
    exact ⟨f, rfl, hX⟩
  · rw [if_neg (fun e => c1 ((nI_eq (by omega) (by omega)).mp e)), if_neg c1, s_of2 hX ha, rs_b1_some, s_of2 hX hb]
    simp only [rs_lt_eq, rs_b1_some]
    rw [nI_add]
    by_cases c2 : V 2 a < v
    · have hneg : ¬ (0 : Int32) ≤ nI (V 2 a) - nI v := by
        rw [pn_le, pk_sub_toInt (by omega) (by omega)]
        have : (0 : Int32).toInt = 0 := rfl
        omega
      rw [if_neg hneg, if_pos c2, if_neg (by omega)]
      exact ⟨f, rfl, hX⟩
    · rw [pk_sub (by omega), if_pos (nI_pos' (by omega)), if_neg c2, s_of3 hX hb, rs_b1_some]
      by_cases c3 : V 3 b < V 2 b + v
      · rw [if_neg (nI_ge c3 (by omega)), if_pos c3, if_neg (by omega)]
        exact ⟨f, rfl, hX⟩
      · rw [if_pos (nI_le (by omega) (by omega)), if_neg c3, if_pos rfl, s_put2 _ ha, rs_b1_some, s_put2 _ hb, rs_b1_some]
        exact ⟨_, rfl, XS_up (XS_up hX (by omega) ha) (by omega) hb⟩
theorem s_why {V : Nat → Nat → Nat} (hV : vok V) {f : Nat → Int32} (hM : MS V f) {a b v : Nat} (ha : a < 9) (hb : b < 9) (hv : v ≤ 9) : f_X11_whyNotLend (nI a) (nI b) (nI v) f = some (nI (wn V a b v)) := by
  obtain ⟨v1, v2, v3, v4⟩ := hV a ha
  obtain ⟨w1, w2, w3, w4⟩ := hV b hb
  unfold f_X11_whyNotLend wn
  by_cases c1 : a = b
  · subst c1
    rw [if_pos rfl, if_pos rfl]
    rfl
  · rw [if_neg (fun e => c1 ((nI_eq (by omega) (by omega)).mp e)), if_neg c1, s_at2, rs_b1_some, if_neg (nI_in (by omega) (by omega)), nI_clamp (by omega), hM a ha 2 (by omega)]
    by_cases c2 : V 2 a < v
    · rw [if_neg (nI_ge c2 (by omega)), if_pos c2]
      rfl
    · rw [if_pos (nI_le (by omega) (by omega)), if_neg c2, s_at2, rs_b1_some, if_neg (nI_in (by omega) (by omega)), s_at3, rs_b1_some, if_neg (nI_in (by omega) (by omega)), nI_clamp (by omega), nI_clamp (by omega), hM b hb 2 (by omega), hM b hb 3 (by omega), nI_add]
      by_cases c3 : V 3 b < V 2 b + v
      · rw [if_neg (nI_ge c3 (by omega)), if_pos c3]
        rfl
      · rw [if_pos (nI_le (by omega) (by omega)), if_neg c3]
        rfl
theorem s_lendM {V : Nat → Nat → Nat} (hV : vok V) {f : Nat → Int32} (hM : MS V f) {a b v : Nat} (ha : a < 9) (hb : b < 9) (hv : v ≤ 9) (h0 : wn V a b v = 0) : ∃ f2, f_X11_lend (nI a) (nI b) (nI v) f = some f2 ∧ MS (ld V a b v) f2 := by
  obtain ⟨v1, v2, v3, v4⟩ := hV a ha
  obtain ⟨w1, w2, w3, w4⟩ := hV b hb
  have hab : a ≠ b := fun e => by unfold wn at h0; rw [if_pos e] at h0; omega
  have hle : ¬ V 2 a < v := fun c => by unfold wn at h0; rw [if_neg hab, if_pos c] at h0; omega
  unfold ld
  rw [if_pos h0]
  unfold f_X11_lend
  rw [s_at2, rs_b1_some, if_neg (nI_in (by omega) (by omega)), nI_clamp (n := 9 * 2 + a) (by omega), hM a ha 2 (by omega), pk_sub (by omega), rs_lt_eq, if_neg (gI (c := 9 * 2 + a) (N := 36) (by omega) (by omega)), s_at2, rs_b1_some, if_neg (nI_in (by omega) (by omega)), nI_clamp (n := 9 * 2 + b) (by omega), pk_un (by omega), hM b hb 2 (by omega), nI_add, rs_lt_eq, if_neg (gI (c := 9 * 2 + b) (N := 36) (by omega) (by omega))]
  exact ⟨_, rfl, MS_up (MS_up hM (by omega) ha) (by omega) hb⟩
def ax (s : Nat) : Nat → Nat
  | 0 => s
  | i + 1 => (75 * ax s i + 74) % 65537
def lx (D : Nat → Nat) (V : Nat → Nat → Nat) (x : Nat) : Nat → Nat → Nat := ld V (x % D 0) (x / 9 % D 0) (1 + x / 81 % 5)
def lw (D : Nat → Nat) (V : Nat → Nat → Nat) (x : Nat) : Nat := if wn V (x % D 0) (x / 9 % D 0) (1 + x / 81 % 5) = 0 then 1 else 0
def aV (D : Nat → Nat) (V : Nat → Nat → Nat) (y s : Nat) : Nat → Nat → Nat → Nat
  | 0 => V
  | i + 1 => py D (lx D (aV D V y s i) (ax s (i + 1))) (y + i)
def aL (D : Nat → Nat) (V : Nat → Nat → Nat) (y s m : Nat) : Nat := sm (fun i => lw D (aV D V y s i) (ax s (i + 1))) m
def aH (D : Nat → Nat) (V : Nat → Nat → Nat) (y s m : Nat) : Nat := sm (fun i => cn D (lx D (aV D V y s i) (ax s (i + 1))) (y + i)) m
theorem aV_ok {D : Nat → Nat} {V : Nat → Nat → Nat} (hV : vok V) (y s : Nat) : ∀ m, vok (aV D V y s m)
  | 0 => hV
  | m + 1 => pyi_ok (ld_ok (aV_ok hV y s m) _ _ _) _ _
theorem aV_sx (D : Nat → Nat) (V : Nat → Nat → Nat) (y s : Nat) : ∀ m, sx V (aV D V y s m)
  | 0 => sx_rf V
  | m + 1 => sx_tr (aV_sx D V y s m) (sx_tr (ld_sx _ _ _ _) (sx_py D _ _))
theorem ax_lt {s : Nat} (hs : s ≤ 9999) : ∀ i, ax s i < 65537
  | 0 => by show s < 65537; omega
  | i + 1 => Nat.mod_lt _ (by omega)
theorem s_draw {x : Nat} (hx : x < 65537) : ((((75 : Int32) * nI x) + 74) - (((75 : Int32) * nI x) + 74) / 65537 * 65537) = nI ((75 * x + 74) % 65537) := by
  rw [show (75 : Int32) = nI 75 from rfl, pk_mul, show (74 : Int32) = nI 74 from rfl, nI_add, show (65537 : Int32) = nI 65537 from rfl, pk_rem (by omega) (by omega) (by omega)]
theorem s_drawM {x : Nat} (hx : x < 65537) : (((((75 : Int64) * ((nI x).toInt64)) + 74) - (((75 : Int64) * ((nI x).toInt64)) + 74) / 65537 * 65537).toInt32) = nI ((75 * x + 74) % 65537) := by
  rw [nI_l (by omega), show (75 : Int64) = lN 75 from rfl, lN_mul, show (74 : Int64) = lN 74 from rfl, lN_add, show (65537 : Int64) = lN 65537 from rfl, pk_lRem (by omega) (by omega) (by omega), lN_i]
theorem s_much {x : Nat} (hx : x < 65537) : ((1 : Int32) + ((nI x / 81) - (nI x / 81) / 5 * 5)) = nI (1 + x / 81 % 5) := by
  have : x / 81 ≤ x := Nat.div_le_self _ _
  rw [show (81 : Int32) = nI 81 from rfl, pk_div (by omega) (by omega) (by omega), show (5 : Int32) = nI 5 from rfl, pk_rem (by omega) (by omega) (by omega), show (1 : Int32) = nI 1 from rfl, nI_add]
theorem rs_b6_some {α β γ δ ε η ζ : Type} (a : α) (b : β) (c : γ) (d : δ) (e : ε) (f : η) (k : α → β → γ → δ → ε → η → Option ζ) : rs_b6 (some (a, b, c, d, e, f)) k = k a b c d e f := rfl
theorem s_drawYears {D : Nat → Nat} (h : sd_ok D) {V : Nat → Nat → Nat} (hV : vok V) {y m s N : Nat} (hy : y + m < 2 ^ 23) (hm : m ≤ 100) (hs9 : s ≤ 9999) (hN : 200 < N) {f g : Nat → Int32} (hX : XS V f) (hg0 : ∀ k, k < 9 → g k = nI 0) :
    ∃ f2 g2, f_X7_drawYears N (nI s) (nI m) (nI y) 0 0 0 (nI (D 0)) (nI (D 1)) (nI (D 2)) (nI (D 3)) (nI (D 4)) (nI (D 5)) (nI (D 6)) f g = some (nI (y + m), nI m, nI (aH D V y s m), nI (aL D V y s m), f2, g2) ∧ XS (aV D V y s m) f2 := by
  have hb := h.2.1
  have hb0 := h.1
  unfold f_X7_drawYears rs_l8
  obtain ⟨r, h1, h2⟩ := rs_loop_inv (body := fun z : (Nat → Int32) × (Nat → Int32) × Int32 × Int32 × Int32 × Int32 × Int32 × Int32 => f_X7_drawYears_L14 N (nI m) (nI (D 0)) (nI (D 1)) (nI (D 2)) (nI (D 3)) (nI (D 4)) (nI (D 5)) (nI (D 6)) z.1 z.2.1 z.2.2.1 z.2.2.2.1 z.2.2.2.2.1 z.2.2.2.2.2.1 z.2.2.2.2.2.2.1 z.2.2.2.2.2.2.2) (fun i z => XS (aV D V y s i) z.1 ∧ (∃ hu : Nat → Nat, ∀ k, k < 9 → z.2.1 k = nI (hu k)) ∧ z.2.2.1 = nI (y + i) ∧ z.2.2.2.1 = nI i ∧ z.2.2.2.2.1 = nI (aH D V y s i) ∧ z.2.2.2.2.2.1 = nI (aL D V y s i) ∧ z.2.2.2.2.2.2.1 = nI (ax s i) ∧ z.2.2.2.2.2.2.2 = nI i) (fun r => XS (aV D V y s m) r.1 ∧ r.2.2.1 = nI (y + m) ∧ r.2.2.2.1 = nI m ∧ r.2.2.2.2.1 = nI (aH D V y s m) ∧ r.2.2.2.2.2 = nI (aL D V y s m)) m (by
    rintro i ⟨a, b, c1, c2, c3, c4, c5, c6⟩ hi ⟨q1, ⟨hu, q2⟩, q3, q4, q5, q6, q7, q8⟩
    dsimp only at q1 q2 q3 q4 q5 q6 q7 q8 ⊢
    subst q3 q4 q5 q6 q7 q8
    unfold f_X7_drawYears_L14
    by_cases hc : m ≤ i
    · have : i = m := by omega
      rw [if_pos (nI_le hc (by omega))]
      subst this
      exact Or.inr ⟨_, rfl, q1, rfl, rfl, rfl, rfl⟩
    · have hxl := ax_lt hs9 i
      have hxl2 := ax_lt hs9 (i + 1)
      have hd9 : ax s (i + 1) / 9 ≤ ax s (i + 1) := Nat.div_le_self _ _
      rw [if_neg (nI_ge (by omega) (by omega)), s_draw hxl, rs_lt_eq]
      have ex : (75 * ax s i + 74) % 65537 = ax s (i + 1) := rfl
      have l1 : ax s (i + 1) % D 0 < D 0 := Nat.mod_lt _ (by omega)
      have l2 : ax s (i + 1) / 9 % D 0 < D 0 := Nat.mod_lt _ (by omega)
      have l3 : ax s (i + 1) / 81 % 5 < 5 := Nat.mod_lt _ (by omega)
      obtain ⟨f2, e1, e2⟩ := s_lend (aV_ok hV y s i) q1 (a := ax s (i + 1) % D 0) (b := ax s (i + 1) / 9 % D 0) (v := 1 + ax s (i + 1) / 81 % 5) (by omega) (by omega) (by omega)
      rw [ex, s_leftOver (by omega) (by omega) (by omega), rs_b1_some, show (9 : Int32) = nI 9 from rfl, pk_div (by omega) (by omega) (by omega), s_leftOver (by omega) (by omega) (by omega), rs_b1_some, s_much hxl2, e1, rs_b2_some]
      have ew : (if nI (wn (aV D V y s i) (ax s (i + 1) % D 0) (ax s (i + 1) / 9 % D 0) (1 + ax s (i + 1) / 81 % 5)) = 0 then rs_lt (nI (aL D V y s i) + 1) (fun (x69 : Int32) => some x69) else some (nI (aL D V y s i))) = some (nI (aL D V y s (i + 1))) := by
        have es : aL D V y s (i + 1) = aL D V y s i + lw D (aV D V y s i) (ax s (i + 1)) := rfl
        have hw4 : wn (aV D V y s i) (ax s (i + 1) % D 0) (ax s (i + 1) / 9 % D 0) (1 + ax s (i + 1) / 81 % 5) ≤ 3 := by
          unfold wn
          split
          · omega
          · split
            · omega
            · split <;> omega
        rw [es]
        unfold lw
        by_cases c : wn (aV D V y s i) (ax s (i + 1) % D 0) (ax s (i + 1) / 9 % D 0) (1 + ax s (i + 1) / 81 % 5) = 0
        · rw [c, if_pos rfl, rs_lt_eq, nI_1]
          rfl
        · rw [if_neg (nI_ne0 (by omega) (by omega)), if_neg c]
          rfl
      rw [ew, rs_b1_some]
      obtain ⟨f3, g3, e3, e4, e5⟩ := s_pyX h (ld_ok (aV_ok hV y s i) (ax s (i + 1) % D 0) (ax s (i + 1) / 9 % D 0) (1 + ax s (i + 1) / 81 % 5)) (y := y + i) (N := N) (by omega) (by omega) e2 q2 i (aH D V y s i)
      rw [e3, rs_b5_some, nI_1]
      exact Or.inl ⟨_, rfl, ⟨e4, ⟨_, e5⟩, rfl, rfl, rfl, rfl, rfl, rfl⟩, by omega⟩) N 0 (f, g, nI y, 0, 0, 0, nI s, 0) (by omega) (by omega) ⟨hX, ⟨fun _ => 0, hg0⟩, rfl, rfl, rfl, rfl, rfl, rfl⟩
  obtain ⟨r1, r2, r3, r4, r5, r6⟩ := r
  obtain ⟨w1, w2, w3, w4, w5⟩ := h2
  dsimp only at w1 w2 w3 w4 w5
  rw [h1, rs_b6_some, w2, w3, w4, w5]
  exact ⟨r1, r2, rfl, w1⟩
theorem s_ageM {D : Nat → Nat} (h : sd_ok D) {V : Nat → Nat → Nat} (hV : vok V) {y m s N : Nat} (hy : y + m < 2 ^ 23) (hm : m ≤ 100) (hs9 : s ≤ 9999) (hN : 200 < N) {f g : Nat → Int32} (hX : MS V f) (hg0 : ∀ k, k < 9 → g k = nI 0) :
    ∃ f2 g2, rs_l7 (f_X11_age_L52 N (nI m) (nI (D 0)) (nI (D 1)) (nI (D 2)) (nI (D 3)) (nI (D 4)) (nI (D 5)) (nI (D 6))) N f g 0 (nI y) (nI s) 0 0 = some (f2, g2, nI (aH D V y s m), nI (y + m), nI (aL D V y s m)) ∧ MS (aV D V y s m) f2 := by
  have hb := h.2.1
  have hb0 := h.1
  unfold rs_l7
  obtain ⟨r, h1, h2⟩ := rs_loop_inv (body := fun z : (Nat → Int32) × (Nat → Int32) × Int32 × Int32 × Int32 × Int32 × Int32 => f_X11_age_L52 N (nI m) (nI (D 0)) (nI (D 1)) (nI (D 2)) (nI (D 3)) (nI (D 4)) (nI (D 5)) (nI (D 6)) z.1 z.2.1 z.2.2.1 z.2.2.2.1 z.2.2.2.2.1 z.2.2.2.2.2.1 z.2.2.2.2.2.2) (fun i z => MS (aV D V y s i) z.1 ∧ (∃ hu : Nat → Nat, ∀ k, k < 9 → z.2.1 k = nI (hu k)) ∧ z.2.2.1 = nI (aH D V y s i) ∧ z.2.2.2.1 = nI (y + i) ∧ z.2.2.2.2.1 = nI (ax s i) ∧ z.2.2.2.2.2.1 = nI (aL D V y s i) ∧ z.2.2.2.2.2.2 = nI i) (fun r => MS (aV D V y s m) r.1 ∧ r.2.2.1 = nI (aH D V y s m) ∧ r.2.2.2.1 = nI (y + m) ∧ r.2.2.2.2 = nI (aL D V y s m)) m (by
    rintro i ⟨a, b, c1, c2, c3, c4, c5⟩ hi ⟨q1, ⟨hu, q2⟩, q3, q4, q5, q6, q7⟩
    dsimp only at q1 q2 q3 q4 q5 q6 q7 ⊢
    subst q3 q4 q5 q6 q7
    unfold f_X11_age_L52
    by_cases hc : m ≤ i
    · have : i = m := by omega
      rw [if_pos (nI_le hc (by omega))]
      subst this
      exact Or.inr ⟨_, rfl, q1, rfl, rfl, rfl⟩
    · have hxl := ax_lt hs9 i
      have hxl2 := ax_lt hs9 (i + 1)
      have hd9 : ax s (i + 1) / 9 ≤ ax s (i + 1) := Nat.div_le_self _ _
      have l1 : ax s (i + 1) % D 0 < D 0 := Nat.mod_lt _ (by omega)
      have l2 : ax s (i + 1) / 9 % D 0 < D 0 := Nat.mod_lt _ (by omega)
      have l3 : ax s (i + 1) / 81 % 5 < 5 := Nat.mod_lt _ (by omega)
      rw [if_neg (nI_ge (by omega) (by omega)), s_drawM hxl, rs_lt_eq]
      have ex : (75 * ax s i + 74) % 65537 = ax s (i + 1) := rfl
      have hn0 : ¬ nI (D 0) = 0 := nI_ne0 (by omega) (by omega)
      rw [ex, if_neg hn0, pk_rem (by omega) (by omega) (by omega), rs_lt_eq, if_neg hn0, show (9 : Int32) = nI 9 from rfl, pk_div (a := ax s (i + 1)) (d := 9) (by omega) (by omega) (by omega), pk_rem (by omega) (by omega) (by omega), rs_lt_eq, s_much hxl2, rs_lt_eq, s_why (aV_ok hV y s i) q1 (by omega) (by omega) (by omega), rs_b1_some]
      have ew : ∃ f2, (if nI (wn (aV D V y s i) (ax s (i + 1) % D 0) (ax s (i + 1) / 9 % D 0) (1 + ax s (i + 1) / 81 % 5)) = 0 then rs_b1 (f_X11_lend (nI (ax s (i + 1) % D 0)) (nI (ax s (i + 1) / 9 % D 0)) (nI (1 + ax s (i + 1) / 81 % 5)) a) (fun (f96 : (Nat → Int32)) => some ((nI (aL D V y s i) + 1), f96)) else some (nI (aL D V y s i), a)) = some (nI (aL D V y s (i + 1)), f2) ∧ MS (lx D (aV D V y s i) (ax s (i + 1))) f2 := by
        have es : aL D V y s (i + 1) = aL D V y s i + lw D (aV D V y s i) (ax s (i + 1)) := rfl
        have hw4 : wn (aV D V y s i) (ax s (i + 1) % D 0) (ax s (i + 1) / 9 % D 0) (1 + ax s (i + 1) / 81 % 5) ≤ 3 := by
          unfold wn
          split
          · omega
          · split
            · omega
            · split <;> omega
        rw [es]
        unfold lw
        by_cases c : wn (aV D V y s i) (ax s (i + 1) % D 0) (ax s (i + 1) / 9 % D 0) (1 + ax s (i + 1) / 81 % 5) = 0
        · obtain ⟨f2, e1, e2⟩ := s_lendM (aV_ok hV y s i) q1 (a := ax s (i + 1) % D 0) (b := ax s (i + 1) / 9 % D 0) (v := 1 + ax s (i + 1) / 81 % 5) (by omega) (by omega) (by omega) c
          rw [c, if_pos rfl, e1, rs_b1_some, nI_1]
          exact ⟨f2, rfl, e2⟩
        · rw [if_neg (nI_ne0 (by omega) (by omega)), if_neg c]
          refine ⟨a, rfl, ?_⟩
          unfold lx ld
          rw [if_neg c]
          exact q1
      obtain ⟨f2, ew1, ew2⟩ := ew
      rw [ew1, rs_b2_some]
      obtain ⟨f3, g3, e3, e4, e5⟩ := s_pyM h (ld_ok (aV_ok hV y s i) (ax s (i + 1) % D 0) (ax s (i + 1) / 9 % D 0) (1 + ax s (i + 1) / 81 % 5)) (y := y + i) (N := N) (by omega) (by omega) ew2 q2 (aH D V y s i)
      rw [e3, rs_b5_some, nI_1]
      exact Or.inl ⟨_, rfl, ⟨e4, ⟨_, e5⟩, rfl, rfl, rfl, rfl, rfl⟩, by omega⟩) N 0 (f, g, 0, nI y, nI s, 0, 0) (by omega) (by omega) ⟨hX, ⟨fun _ => 0, hg0⟩, rfl, rfl, rfl, rfl, rfl⟩
  obtain ⟨r1, r2, r3, r4, r5⟩ := r
  obtain ⟨w1, w2, w3, w4⟩ := h2
  dsimp only at w1 w2 w3 w4
  rw [h1, w2, w3, w4]
  exact ⟨r1, r2, rfl, w1⟩
theorem s_together {V : Nat → Nat → Nat} {f : Nat → Int32} (hX : XS V f) {n N : Nat} (hn : n ≤ 9) (hN : 20 < N) : f_X6_together N (nI n) f = some (nI (sm (fun k => V 2 k) n)) := by
  unfold f_X6_together
  have e : rs_l2 (f_X6_together_L4 (nI n) f) N 0 0 = some (nI (sm (fun k => V 2 k) n)) := lp_sum (s := 0) (m := n) (by omega) (fun i c hi => by
    unfold f_X6_together_L4
    rw [Nat.zero_add, if_neg (nI_ge (by omega) (by omega)), s_of2 hX (by omega), rs_b1_some, rs_lt_eq, nI_add, nI_1]) (fun c => by
    unfold f_X6_together_L4
    rw [Nat.zero_add, if_pos (nI_le (Nat.le_refl _) (by omega))])
  rw [e]
  rfl
theorem s_togetherM {V : Nat → Nat → Nat} {f : Nat → Int32} (hM : MS V f) {n N : Nat} (hn : n ≤ 9) (hN : 20 < N) : rs_l2 (f_X11_age_L151 (nI n) f) N 0 0 = some (nI (sm (fun k => V 2 k) n)) := by
  exact lp_sum (s := 0) (m := n) (by omega) (fun i c hi => by
    unfold f_X11_age_L151
    rw [Nat.zero_add, if_neg (nI_ge (by omega) (by omega)), s_at2, rs_b1_some, if_neg (nI_in (by omega) (by omega)), nI_clamp (by omega), hM i (by omega) 2 (by omega), rs_lt_eq, nI_add, nI_1]) (fun c => by
    unfold f_X11_age_L151
    rw [Nat.zero_add, if_pos (nI_le (Nat.le_refl _) (by omega))])
theorem e_age {D : Nat → Nat} (h : sd_ok D) {V : Nat → Nat → Nat} (hV : vok V) {f g : Nat → Int32} (hX : XS V f) (hM : MS V g) {N : Nat} (hN : 200 < N) {y : Nat} (hy : y < 2 ^ 22) (p1 p2 p3 : Int32)
    (t1 t2 t3 t4 t5 t6 t7 t8 t9 t10 t11 t12 t13 t14 : Int32) (a1 a2 : Nat → Int32) (m1 m2 : Int32) (b1 b2 : Nat → Int32) :
    ∃ (r : Int32) (o1 o2 o3 o4 o5 o6 o7 o8 o9 o10 o11 o12 o13 o14 : Int32) (c1 c2 : Nat → Int32) (n1 n2 : Int32) (g2 d1 d2 : Nat → Int32),
      f_X10_age N p1 p2 p3 t1 t2 t3 t4 t5 t6 t7 (nI y) t8 t9 t10 t11 t12 t13 t14 (nI (D 0)) (nI (D 1)) (nI (D 2)) (nI (D 3)) (nI (D 4)) (nI (D 5)) (nI (D 6)) f a1 a2 = some (r, o1, o2, o3, o4, o5, o6, o7, o8, o9, o10, o11, o12, o13, o14, c1, c2) ∧ f_X11_age N p1 p2 p3 (nI (D 0)) (nI (D 1)) (nI (D 2)) (nI (D 3)) (nI (D 4)) (nI (D 5)) (nI (D 6)) (nI y) m1 m2 g b1 b2 = some (r, nI y, n1, n2, g2, d1, d2) ∧ MS V g2 := by
  unfold f_X10_age f_X11_age
  simp only [s_within, s_in, rs_b1_some, b2_0]
  cases h1 : ins p1 0 9999 with
  | false =>
    have e1 : (decide ((0 : Int32).toInt ≤ p1.toInt) && decide (p1.toInt ≤ (9999 : Int32).toInt)) = false := h1
    have e2 : (decide ((0 : Int64).toInt ≤ p1.toInt) && decide (p1.toInt ≤ (9999 : Int64).toInt)) = false := h1
    rw [e1, e2]
    exact ⟨-2, t1, t2, t3, t4, t5, t6, t7, t8, t9, t10, t11, t12, t13, t14, a1, a2, m1, m2, g, b1, b2, rfl, rfl, hM⟩
  | true =>
    have e1 : (decide ((0 : Int32).toInt ≤ p1.toInt) && decide (p1.toInt ≤ (9999 : Int32).toInt)) = true := h1
    have e2 : (decide ((0 : Int64).toInt ≤ p1.toInt) && decide (p1.toInt ≤ (9999 : Int64).toInt)) = true := h1
    rw [e1, e2]
    cases h2 : ins p2 1 99 with
    | false =>
      have e1 : (decide ((1 : Int32).toInt ≤ p2.toInt) && decide (p2.toInt ≤ (99 : Int32).toInt)) = false := h2
      have e2 : (decide ((1 : Int64).toInt ≤ p2.toInt) && decide (p2.toInt ≤ (99 : Int64).toInt)) = false := h2
      rw [e1, e2]
      exact ⟨-2, t1, t2, t3, t4, t5, t6, t7, t8, t9, t10, t11, t12, t13, t14, a1, a2, m1, m2, g, b1, b2, rfl, rfl, hM⟩
    | true =>
      have e1 : (decide ((1 : Int32).toInt ≤ p2.toInt) && decide (p2.toInt ≤ (99 : Int32).toInt)) = true := h2
      have e2 : (decide ((1 : Int64).toInt ≤ p2.toInt) && decide (p2.toInt ≤ (99 : Int64).toInt)) = true := h2
      rw [e1, e2]
      cases h3 : ins p3 0 2 with
      | false =>
        have e1 : (decide ((0 : Int32).toInt ≤ p3.toInt) && decide (p3.toInt ≤ (2 : Int32).toInt)) = false := h3
        have e2 : (decide ((0 : Int64).toInt ≤ p3.toInt) && decide (p3.toInt ≤ (2 : Int64).toInt)) = false := h3
        rw [e1, e2]
        exact ⟨-2, t1, t2, t3, t4, t5, t6, t7, t8, t9, t10, t11, t12, t13, t14, a1, a2, m1, m2, g, b1, b2, rfl, rfl, hM⟩
      | true =>
        have e1 : (decide ((0 : Int32).toInt ≤ p3.toInt) && decide (p3.toInt ≤ (2 : Int32).toInt)) = true := h3
        have e2 : (decide ((0 : Int64).toInt ≤ p3.toInt) && decide (p3.toInt ≤ (2 : Int64).toInt)) = true := h3
        rw [e1, e2]
        obtain ⟨q, q2, rfl⟩ := ins_of (b := 9999) h1
        obtain ⟨m, q3, q4, rfl⟩ := ins_of1 (a := 1) (b := 99) h2
        simp only [itf]
        obtain ⟨f2, g2, w1, w2, w3⟩ := s_beginS (D := D) hX a1 a2 (N := N) (by omega) (nI y)
        obtain ⟨b3, b4, w4, w5, w6⟩ := s_keepNow hM (nI y) b1 b2 (N := N) (by omega)
        obtain ⟨f3, g3, w7, w8⟩ := s_drawYears h hV (y := y) (m := m) (s := q) (N := N) (by omega) (by omega) q2 (by omega) w2 w3
        obtain ⟨f4, g4, w10, w11⟩ := s_ageM h hV (y := y) (m := m) (s := q) (N := N) (by omega) (by omega) q2 (by omega) hM w6
        obtain ⟨f5, w13, w14⟩ := s_putBack (aV_sx D V y q m) w11 w5 (nI y) (N := N) (by omega)
        rw [w1, w4]
        show ∃ (r : Int32) (o1 o2 o3 o4 o5 o6 o7 o8 o9 o10 o11 o12 o13 o14 : Int32) (c1 c2 : Nat → Int32) (n1 n2 : Int32) (g2_1 d1 d2 : Nat → Int32), rs_b6 (f_X7_drawYears N (nI q) (nI m) (nI y) 0 0 0 (nI (D 0)) (nI (D 1)) (nI (D 2)) (nI (D 3)) (nI (D 4)) (nI (D 5)) (nI (D 6)) f2 g2) _ = _ ∧ rs_b5 (rs_l7 (f_X11_age_L52 N (nI m) (nI (D 0)) (nI (D 1)) (nI (D 2)) (nI (D 3)) (nI (D 4)) (nI (D 5)) (nI (D 6))) N g b4 0 (nI y) (nI q) 0 0) _ = _ ∧ _
        rw [w7, w10, rs_b6_some, rs_b5_some, s_togetherM w11 h.2.1 (by omega), rs_b1_some, w13, rs_b2_some, s_together w8 h.2.1 (by omega), rs_b1_some]
        by_cases c0 : p3 = 0
        · rw [if_pos c0, if_pos c0]
          exact ⟨_, _, _, _, _, _, _, _, _, _, _, _, _, _, _, _, _, _, _, _, _, _, rfl, rfl, w14⟩
        · rw [if_neg c0, if_neg c0]
          by_cases c1 : p3 = 1
          · rw [if_pos c1, if_pos c1]
            exact ⟨_, _, _, _, _, _, _, _, _, _, _, _, _, _, _, _, _, _, _, _, _, _, rfl, rfl, w14⟩
          · rw [if_neg c1, if_neg c1]
            exact ⟨_, _, _, _, _, _, _, _, _, _, _, _, _, _, _, _, _, _, _, _, _, _, rfl, rfl, w14⟩
