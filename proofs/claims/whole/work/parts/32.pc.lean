theorem gI {c N : Nat} (h : c < N) (hN : N < 2 ^ 31) : ¬ (nI c < 0 ∨ N ≤ c) := fun z => z.elim (nI_pos (by omega)) (by omega)
theorem itf {α : Type} (a b : α) : (if (true = false) then a else b) = b := rfl
theorem iff_ {α : Type} (a b : α) : (if (false = false) then a else b) = a := rfl
def V0 : Nat → Nat → Nat := fun j _ => if j = 0 then 3 else if j = 1 then 2 else if j = 2 then 0 else 50
theorem V0_ok : vok V0 := fun k _ => ⟨by simp [V0], by simp [V0], by simp [V0], by simp [V0]⟩
theorem nar_char {v : Nat} (h : v < 65536) : vp_nar .char (nI v) = nI v := by
  unfold vp_nar
  rw [(pk_charN h).1]
theorem u16 {v : Nat} (h : v < 65536) : ((nI v).toUInt32 % 65536).toInt32 = nI v := by
  rw [pk_char, pk_tn (by omega), Nat.mod_eq_of_lt h]
theorem s_begin (f : Nat → Int32) {N : Nat} (hN : 10 < N) : ∃ g, f_X6_begin N f = some g ∧ XS V0 g := by
  unfold f_X6_begin rs_l2
  obtain ⟨r, h1, h2⟩ := rs_loop_inv (body := fun s : (Nat → Int32) × Int32 => f_X6_begin_L2 s.1 s.2) (fun i s => s.2 = nI i ∧ ∀ k, k < i → ∀ j, j < 4 → s.1 (4 * k + j) = nI (V0 j k)) (fun g => XS V0 g) 9 (by
    rintro i ⟨g, x⟩ hi ⟨hx, hg⟩
    dsimp only at hx hg ⊢
    subst hx
    unfold f_X6_begin_L2
    by_cases h9 : 9 ≤ i
    · have : i = 9 := by omega
      subst this
      exact Or.inr ⟨g, rfl, hg⟩
    · rw [if_neg (show ¬ (9 : Int32) ≤ nI i from nI_ge (b := 9) (by omega) (by omega))]
      rw [s_put0 _ (by omega), rs_b1_some, s_put1 _ (by omega), rs_b1_some, s_put2 _ (by omega), rs_b1_some, s_put3 _ (by omega), rs_b1_some]
      refine Or.inl ⟨_, rfl, ⟨nI_1 i, ?_⟩, by omega⟩
      intro k hk j hj
      dsimp only
      by_cases hki : k = i
      · subst hki
        rcases (show j = 0 ∨ j = 1 ∨ j = 2 ∨ j = 3 by omega) with rfl | rfl | rfl | rfl
        · rw [pk_un (by omega), pk_un (by omega), pk_un (by omega), pk_us]; rfl
        · rw [pk_un (by omega), pk_un (by omega), pk_us]; rfl
        · rw [pk_un (by omega), pk_us]; rfl
        · rw [pk_us]; rfl
      · rw [pk_un (by omega), pk_un (by omega), pk_un (by omega), pk_un (by omega)]
        exact hg k (by omega) j hj) N 0 (f, 0) (by omega) (by omega) ⟨rfl, fun k hk => by omega⟩
  rw [h1]
  exact ⟨r, rfl, h2⟩
theorem s_beginM (n w : Int32) (f : Nat → Int32) {N : Nat} (hN : 10 < N) : ∃ g, f_X11_begin N n w f = some (n, w, 0, 0, g) ∧ MS V0 g := by
  unfold f_X11_begin rs_l2
  obtain ⟨r, h1, h2⟩ := rs_loop_inv (body := fun s : (Nat → Int32) × Int32 => f_X11_begin_L22 s.1 s.2) (fun i s => s.2 = nI i ∧ ∀ k, k < i → ∀ j, j < 4 → s.1 (9 * j + k) = nI (V0 j k)) (fun g => MS V0 g) 9 (by
    rintro i ⟨g, x⟩ hi ⟨hx, hg⟩
    dsimp only at hx hg ⊢
    subst hx
    unfold f_X11_begin_L22
    by_cases h9 : 9 ≤ i
    · have : i = 9 := by omega
      subst this
      exact Or.inr ⟨g, rfl, hg⟩
    · rw [if_neg (show ¬ (9 : Int32) ≤ nI i from nI_ge (b := 9) (by omega) (by omega))]
      rw [s_at0, rs_b1_some, if_neg (nI_in (by omega) (by omega)), s_at1, rs_b1_some, if_neg (nI_in (by omega) (by omega)), s_at2, rs_b1_some, if_neg (nI_in (by omega) (by omega)), s_at3, rs_b1_some, if_neg (nI_in (by omega) (by omega)), nI_clamp (by omega), nI_clamp (by omega), nI_clamp (by omega), nI_clamp (by omega)]
      refine Or.inl ⟨_, rfl, ⟨nI_1 i, ?_⟩, by omega⟩
      intro k hk j hj
      dsimp only
      by_cases hki : k = i
      · subst hki
        rcases (show j = 0 ∨ j = 1 ∨ j = 2 ∨ j = 3 by omega) with rfl | rfl | rfl | rfl
        · rw [pk_un (by omega), pk_un (by omega), pk_un (by omega), pk_us]; rfl
        · rw [pk_un (by omega), pk_un (by omega), pk_us]; rfl
        · rw [pk_un (by omega), pk_us]; rfl
        · rw [pk_us]; rfl
      · rw [pk_un (by omega), pk_un (by omega), pk_un (by omega), pk_un (by omega)]
        exact hg k (by omega) j hj) N 0 (f, 0) (by omega) (by omega) ⟨rfl, fun k hk => by omega⟩
  rw [h1]
  exact ⟨r, rfl, h2⟩
theorem e_lands {D : Nat → Nat} (h : sd_ok D) {V : Nat → Nat → Nat} (hV : vok V) {f g : Nat → Int32} (hX : XS V f) (hM : MS V g) {N : Nat} (hN : 10 < N) (y c : Nat) (p1 p2 : Int32) :
    ∃ (r : Int32) (E : Nat → Nat) (U : Nat → Nat → Nat) (y2 c2 : Nat) (f2 g2 : Nat → Int32), f_X10_lands N p1 p2 (nI y) (nI (D 0)) (nI (D 1)) f (nI c) = some (r, nI y2, nI (E 0), nI (E 1), f2, nI c2) ∧ f_X11_lands N p1 p2 (nI (D 0)) (nI (D 1)) (nI y) (nI c) g = some (r, nI (E 0), nI (E 1), nI y2, nI c2, g2) ∧ sd_ok E ∧ (∀ j, 2 ≤ j → E j = D j) ∧ vok U ∧ XS U f2 ∧ MS U g2 ∧ y2 ≤ y ∧ c2 ≤ c := by
  unfold f_X10_lands f_X11_lands
  rw [s_within, s_in, s_within, s_in]
  simp only [rs_b1_some, b2_0]
  have same : ∃ (r : Int32) (E : Nat → Nat) (U : Nat → Nat → Nat) (y2 c2 : Nat) (f2 g2 : Nat → Int32), some ((-2 : Int32), nI y, nI (D 0), nI (D 1), f, nI c) = some (r, nI y2, nI (E 0), nI (E 1), f2, nI c2) ∧ some ((-2 : Int32), nI (D 0), nI (D 1), nI y, nI c, g) = some (r, nI (E 0), nI (E 1), nI y2, nI c2, g2) ∧ sd_ok E ∧ (∀ j, 2 ≤ j → E j = D j) ∧ vok U ∧ XS U f2 ∧ MS U g2 ∧ y2 ≤ y ∧ c2 ≤ c := ⟨-2, D, V, y, c, f, g, rfl, rfl, h, fun _ _ => rfl, hV, hX, hM, Nat.le_refl _, Nat.le_refl _⟩
  cases h1 : ins p1 2 9 with
  | false =>
    have e1 : (decide ((2 : Int32).toInt ≤ p1.toInt) && decide (p1.toInt ≤ (9 : Int32).toInt)) = false := h1
    have e2 : (decide ((2 : Int64).toInt ≤ p1.toInt) && decide (p1.toInt ≤ (9 : Int64).toInt)) = false := h1
    rw [e1, e2]
    exact same
  | true =>
    have e1 : (decide ((2 : Int32).toInt ≤ p1.toInt) && decide (p1.toInt ≤ (9 : Int32).toInt)) = true := h1
    have e2 : (decide ((2 : Int64).toInt ≤ p1.toInt) && decide (p1.toInt ≤ (9 : Int64).toInt)) = true := h1
    rw [e1, e2]
    obtain ⟨n, n1, n2, rfl⟩ := ins_of1 (a := 2) (b := 9) h1
    rw [show (nI n - 1 : Int32) = nI (n - 1) from pk_sub (b := 1) (by omega), Int32.toInt_toInt64, nI_toInt (n := n - 1) (by omega)]
    cases h2 : ins p2 1 ((n - 1 : Nat) : Int) with
    | false =>
      have e3 : (decide ((1 : Int64).toInt ≤ p2.toInt) && decide (p2.toInt ≤ ((n - 1 : Nat) : Int))) = false := h2
      rw [e3]
      cases h3 : ins p2 1 8 with
      | false =>
        have e4 : (decide ((1 : Int32).toInt ≤ p2.toInt) && decide (p2.toInt ≤ (8 : Int32).toInt)) = false := h3
        rw [e4]
        exact same
      | true =>
        have e4 : (decide ((1 : Int32).toInt ≤ p2.toInt) && decide (p2.toInt ≤ (8 : Int32).toInt)) = true := h3
        rw [e4]
        obtain ⟨w, w1, w2, rfl⟩ := ins_of1 (a := 1) (b := 8) h3
        have : ¬ w < n := by
          intro hw
          unfold ins at h2
          rw [nI_toInt (by omega)] at h2
          simp at h2
          omega
        rw [if_neg (nI_nlt (a := w) (b := n) (by omega) (by omega))]
        exact same
    | true =>
      have e3 : (decide ((1 : Int64).toInt ≤ p2.toInt) && decide (p2.toInt ≤ ((n - 1 : Nat) : Int))) = true := h2
      rw [e3]
      obtain ⟨w, w1, w2, rfl⟩ := ins_of1 (a := 1) (b := n - 1) h2
      have e4 : (decide ((1 : Int32).toInt ≤ (nI w).toInt) && decide ((nI w).toInt ≤ (8 : Int32).toInt)) = true := by
        have e5 : (1 : Int32).toInt = 1 := rfl
        have e6 : (8 : Int32).toInt = 8 := rfl
        rw [nI_toInt (by omega), e5, e6]
        simp
        omega
      rw [e4, if_pos (nI_lt (a := w) (b := n) (by omega) (by omega))]
      obtain ⟨f2, hf2, hXf⟩ := s_begin f hN
      obtain ⟨g2, hg2, hMg⟩ := s_beginM (nI n) (nI w) g hN
      rw [hf2, hg2]
      have h' := h
      obtain ⟨h0, h1, h2, h3, h4, h5, h6, h7, h8, h9⟩ := h
      refine ⟨nI (D 0), Dup (Dup D 0 n) 1 w, V0, 0, 0, f2, g2, rfl, rfl, ⟨n1, n2, w1, by show w < n; omega, h4, h5, h6, h7, h8, h9⟩, ?_, V0_ok, hXf, hMg, Nat.zero_le _, Nat.zero_le _⟩
      intro j hj
      unfold Dup
      rw [if_neg (by omega), if_neg (by omega)]
theorem e_say {S : Nat → Nat} (hS : ∀ j, j < 60 → S j < 65536) {f g : Nat → Int32} (hf : ∀ j, j < 60 → f j = nI (S j)) (hg : ∀ j, j < 60 → g j = nI (S j)) {c : Nat} (hc : c ≤ 60) (p1 : Int32) :
    ∃ (r : Int32) (S2 : Nat → Nat) (c2 : Nat) (f2 g2 : Nat → Int32), f_X10_say p1 (nI c) f = some (r, nI c2, f2) ∧ f_X11_say p1 (nI c) g = some (r, nI c2, g2) ∧ (∀ j, j < 60 → S2 j < 65536) ∧ (∀ j, j < 60 → f2 j = nI (S2 j)) ∧ (∀ j, j < 60 → g2 j = nI (S2 j)) ∧ c2 ≤ 60 := by
  unfold f_X10_say f_X11_say
  rw [s_within, s_in]
  simp only [rs_b1_some, b2_0]
  cases h1 : ins p1 33 126 with
  | false =>
    have e1 : (decide ((33 : Int32).toInt ≤ p1.toInt) && decide (p1.toInt ≤ (126 : Int32).toInt)) = false := h1
    have e2 : (decide ((33 : Int64).toInt ≤ p1.toInt) && decide (p1.toInt ≤ (126 : Int64).toInt)) = false := h1
    rw [e1, e2]
    exact ⟨-2, S, c, f, g, rfl, rfl, hS, hf, hg, hc⟩
  | true =>
    have e1 : (decide ((33 : Int32).toInt ≤ p1.toInt) && decide (p1.toInt ≤ (126 : Int32).toInt)) = true := h1
    have e2 : (decide ((33 : Int64).toInt ≤ p1.toInt) && decide (p1.toInt ≤ (126 : Int64).toInt)) = true := h1
    rw [e1, e2]
    obtain ⟨v, v1, v2, rfl⟩ := ins_of1 (a := 33) (b := 126) h1
    unfold f_X3_add
    rw [u16 (by omega)]
    by_cases h60 : c = 60
    · subst h60
      exact ⟨-4, S, 60, f, g, rfl, rfl, hS, hf, hg, hc⟩
    · rw [if_neg (nI_pos (by omega)), if_pos (show nI c < (60 : Int32) from nI_lt (b := 60) (by omega) (by omega)), if_neg (nI_in (by omega) (by omega)), if_neg (show ¬ nI c = (60 : Int32) from fun e => h60 ((nI_eq (a := c) (b := 60) (by omega) (by omega)).mp e)), if_neg (nI_in (by omega) (by omega))]
      simp only [rs_lt_eq, rs_b3_some]
      rw [nar_char (by omega), nI_clamp (by omega), nI_1]
      refine ⟨nI (c + 1), fun j => if j = c then v else S j, c + 1, upd f c (nI v), upd g c (nI v), rfl, rfl, ?_, ?_, ?_, by omega⟩
      · intro j hj
        dsimp only
        split
        · omega
        · exact hS j hj
      · intro j hj
        dsimp only
        by_cases hjc : j = c
        · subst hjc; rw [pk_us, if_pos rfl]
        · rw [pk_un hjc, if_neg hjc]; exact hf j hj
      · intro j hj
        dsimp only
        by_cases hjc : j = c
        · subst hjc; rw [pk_us, if_pos rfl]
        · rw [pk_un hjc, if_neg hjc]; exact hg j hj
theorem s_putA (f : Nat → Int32) {n i : Nat} (hi : i < n) (hn : n < 2 ^ 31) (v : Int32) : f_X10_put n (nI i) v f = some (upd f i v) := by
  unfold f_X10_put
  rw [if_neg (nI_pos (by omega)), if_neg (show ¬ Int32.ofNat n ≤ nI i from nI_ge (by omega) (by omega)), if_neg (nI_in (by omega) (by omega)), nI_clamp (by omega)]
theorem s_atA (f : Nat → Int32) {n i : Nat} (hi : i < n) (hn : n < 2 ^ 31) : f_X10_at n (nI i) f = some (f i) := by
  unfold f_X10_at
  rw [if_neg (nI_pos (by omega)), if_neg (show ¬ Int32.ofNat n ≤ nI i from nI_ge (by omega) (by omega)), if_neg (nI_in (by omega) (by omega)), nI_clamp (by omega)]
theorem e_seen {D : Nat → Nat} (h : sd_ok D) {c : Nat} (hc : c ≤ 8) {a1 a2 a3 b1 b2' b3 : Nat → Int32} (h1 : ∀ j, j < 8 → a1 j = b1 j) (h2 : ∀ j, j < 8 → a2 j = b2' j) (h3 : ∀ j, j < 8 → a3 j = b3 j) (p1 p2 p3 : Int32) :
    ∃ (r : Int32) (c2 : Nat) (x1 x2 x3 y1 y2 y3 : Nat → Int32), f_X10_seen p1 p2 p3 (nI (D 0)) (nI c) a1 a2 a3 = some (r, nI c2, x1, x2, x3) ∧ f_X11_seen p1 p2 p3 (nI (D 0)) (nI c) b1 b2' b3 = some (r, nI c2, y1, y2, y3) ∧ c2 ≤ 8 ∧ (∀ j, j < 8 → x1 j = y1 j) ∧ (∀ j, j < 8 → x2 j = y2 j) ∧ (∀ j, j < 8 → x3 j = y3 j) := by
  unfold f_X10_seen f_X11_seen
  rw [s_hasLand p1 h.1 h.2.1, s_isLand p1 h.1 h.2.1, s_within, s_in]
  simp only [rs_b1_some, b2_0]
  cases g1 : isl p1 (D 0) with
  | false => exact ⟨-1, c, a1, a2, a3, b1, b2', b3, rfl, rfl, hc, h1, h2, h3⟩
  | true =>
    cases g2 : ins p2 0 9999 with
    | false =>
      have e1 : (decide ((0 : Int32).toInt ≤ p2.toInt) && decide (p2.toInt ≤ (9999 : Int32).toInt)) = false := g2
      have e2 : (decide ((0 : Int64).toInt ≤ p2.toInt) && decide (p2.toInt ≤ (9999 : Int64).toInt)) = false := g2
      rw [e1, e2]
      exact ⟨-2, c, a1, a2, a3, b1, b2', b3, rfl, rfl, hc, h1, h2, h3⟩
    | true =>
      have e1 : (decide ((0 : Int32).toInt ≤ p2.toInt) && decide (p2.toInt ≤ (9999 : Int32).toInt)) = true := g2
      have e2 : (decide ((0 : Int64).toInt ≤ p2.toInt) && decide (p2.toInt ≤ (9999 : Int64).toInt)) = true := g2
      rw [e1, e2]
      unfold f_X5_add
      by_cases h8 : c = 8
      · subst h8
        exact ⟨-4, 8, a1, a2, a3, b1, b2', b3, rfl, rfl, hc, h1, h2, h3⟩
      · have hg := nI_in (c := c) (N := 8) (by omega) (by omega)
        rw [if_pos (show nI c < (8 : Int32) from nI_lt (b := 8) (by omega) (by omega)), if_neg (show ¬ nI c = (8 : Int32) from fun e => h8 ((nI_eq (a := c) (b := 8) (by omega) (by omega)).mp e))]
        simp only [if_neg hg]
        rw [s_putA _ (by omega) (by omega), rs_b1_some, s_putA _ (by omega) (by omega), rs_b1_some]
        simp only [rs_lt_eq, nI_clamp (show c < 2 ^ 31 by omega), nI_1]
        have key : ∀ (u v : Nat → Int32) (z : Int32), (∀ j, j < 8 → u j = v j) → ∀ j, j < 8 → upd u c z j = upd v c z j := by
          intro u v z huv j hj
          by_cases hjc : j = c
          · subst hjc; rw [pk_us, pk_us]
          · rw [pk_un hjc, pk_un hjc]; exact huv j hj
        by_cases c3 : p3 = 0
        · rw [if_pos c3, rs_b1_some, s_putA _ (by omega) (by omega)]
          exact ⟨nI (c + 1), c + 1, upd a1 c p1, upd a2 c p2, upd a3 c 0, upd b1 c p1, upd b2' c p2, upd b3 c 0, rfl, rfl, by omega, key _ _ _ h1, key _ _ _ h2, key _ _ _ h3⟩
        · rw [if_neg c3, rs_b1_some, s_putA _ (by omega) (by omega)]
          exact ⟨nI (c + 1), c + 1, upd a1 c p1, upd a2 c p2, upd a3 c 1, upd b1 c p1, upd b2' c p2, upd b3 c 1, rfl, rfl, by omega, key _ _ _ h1, key _ _ _ h2, key _ _ _ h3⟩
theorem e_land {D : Nat → Nat} (h : sd_ok D) {V : Nat → Nat → Nat} (hV : vok V) {f g : Nat → Int32} (hX : XS V f) (hM : MS V g) (p1 p2 p3 : Int32) :
    ∃ (r : Int32) (U : Nat → Nat → Nat) (f2 g2 : Nat → Int32), f_X10_land p1 p2 p3 (nI (D 0)) f = some (r, f2) ∧ f_X11_land p1 p2 p3 (nI (D 0)) g = some (r, g2) ∧ vok U ∧ XS U f2 ∧ MS U g2 := by
  unfold f_X10_land f_X11_land
  have hb := h.2.1
  rw [s_hasLand p1 h.1 h.2.1, s_isLand p1 h.1 h.2.1, s_within, s_in]
  simp only [rs_b1_some, b2_0]
  cases g1 : isl p1 (D 0) with
  | false => exact ⟨-1, V, f, g, rfl, rfl, hV, hX, hM⟩
  | true =>
    cases g2 : ins p2 0 3 with
    | false =>
      have e1 : (decide ((0 : Int32).toInt ≤ p2.toInt) && decide (p2.toInt ≤ (3 : Int32).toInt)) = false := g2
      have e2 : (decide ((0 : Int64).toInt ≤ p2.toInt) && decide (p2.toInt ≤ (3 : Int64).toInt)) = false := g2
      rw [e1, e2]
      exact ⟨-2, V, f, g, rfl, rfl, hV, hX, hM⟩
    | true =>
      have e1 : (decide ((0 : Int32).toInt ≤ p2.toInt) && decide (p2.toInt ≤ (3 : Int32).toInt)) = true := g2
      have e2 : (decide ((0 : Int64).toInt ≤ p2.toInt) && decide (p2.toInt ≤ (3 : Int64).toInt)) = true := g2
      rw [e1, e2]
      obtain ⟨k, hk, rfl⟩ := isl_of g1
      obtain ⟨j, hj, rfl⟩ := ins_of (b := 3) g2
      have hk9 : k < 9 := by omega
      obtain ⟨v1, v2, v3, v4⟩ := hV k hk9
      simp only [s_within, s_in, rs_b1_some, b2_0]
      simp only [itf]
      have small : ∀ (m : Nat), (j = 0 ∨ j = 1) → m ≤ 20 → vok (vup V j k m) := by
        intro m hjj hm a ha
        obtain ⟨w1, w2, w3, w4⟩ := hV a ha
        by_cases hak : a = k
        · subst hak
          rcases hjj with rfl | rfl
          · exact ⟨by rw [vup_s]; exact hm, by rw [vup_n V (by omega)]; exact w2, by rw [vup_n V (by omega)]; exact w3, by rw [vup_n V (by omega), vup_n V (by omega)]; exact w4⟩
          · exact ⟨by rw [vup_n V (by omega)]; exact w1, by rw [vup_s]; exact hm, by rw [vup_n V (by omega)]; exact w3, by rw [vup_n V (by omega), vup_n V (by omega)]; exact w4⟩
        · rw [vup_n V (by omega), vup_n V (by omega), vup_n V (by omega), vup_n V (by omega)]
          exact ⟨w1, w2, w3, w4⟩
      have c2 : ∀ q : Nat, q ≤ 3 → (nI q = 2 ↔ q = 2) := fun q hq => nI_eq (b := 2) (by omega) (by omega)
      have c3 : ∀ q : Nat, q ≤ 3 → (nI q = 3 ↔ q = 3) := fun q hq => nI_eq (b := 3) (by omega) (by omega)
      have hset : ∀ (m : Nat), m ≤ 99 → ∀ a, a < 9 → V 2 a ≤ V 3 a := fun m _ a ha => (hV a ha).2.2.2
      have rM : ∀ (W : Nat → Nat → Nat) (q : Nat → Int32), MS W q → ∀ jj, jj < 4 → q (9 * jj + k) = nI (W jj k) := fun W q hq jj hjj => hq k hk9 jj hjj
      by_cases hj01 : j = 0 ∨ j = 1
      · have hx5 : (if nI j = 0 then some (20 : Int32) else if nI j = 1 then some 20 else some 99) = some 20 := by
          rcases hj01 with rfl | rfl <;> rfl
        have hx6 : (if 2 ≤ nI j then some (99 : Int64) else some 20) = some 20 := by
          rcases hj01 with rfl | rfl <;> rfl
        rw [hx5, hx6]
        simp only [rs_b1_some]
        cases g3 : ins p3 0 20 with
        | false =>
          have e1 : (decide ((0 : Int32).toInt ≤ p3.toInt) && decide (p3.toInt ≤ (20 : Int32).toInt)) = false := g3
          have e2 : (decide ((0 : Int64).toInt ≤ p3.toInt) && decide (p3.toInt ≤ (20 : Int64).toInt)) = false := g3
          rw [e1, e2]
          exact ⟨-2, V, f, g, rfl, rfl, hV, hX, hM⟩
        | true =>
          have e1 : (decide ((0 : Int32).toInt ≤ p3.toInt) && decide (p3.toInt ≤ (20 : Int32).toInt)) = true := g3
          have e2 : (decide ((0 : Int64).toInt ≤ p3.toInt) && decide (p3.toInt ≤ (20 : Int64).toInt)) = true := g3
          rw [e1, e2]
          obtain ⟨m, hm, rfl⟩ := ins_of (b := 20) g3
          simp only [itf]
          rw [if_neg (fun e => by have := (c2 j hj).mp e; omega), if_neg (fun e => by have := (c2 j hj).mp e; omega), s_of hX hk9 (by omega) rfl, s_put f hk9 (by omega) rfl, s_at rfl, s_at2, s_at3]
          simp only [rs_b1_some, rs_lt_eq]
          have hM2 := MS_up hM (j := j) (k := k) (v := m) (by omega) hk9
          have hX2 := XS_up hX (j := j) (k := k) (v := m) (by omega) hk9
          rw [if_neg (fun e => by have := (c3 j hj).mp e; omega), if_neg (nI_in (by omega) (by omega)), if_neg (nI_in (by omega) (by omega)), if_neg (nI_in (by omega) (by omega)), if_neg (nI_in (by omega) (by omega)), nI_clamp (by omega), nI_clamp (by omega), nI_clamp (by omega), rM _ _ hM j (by omega), rM _ _ hM2 2 (by omega), rM _ _ hM2 3 (by omega), vup_n V (by omega), vup_n V (by omega), if_pos (nI_le v4 (by omega))]
          exact ⟨nI (V j k), vup V j k m, _, _, rfl, rfl, small m hj01 hm, hX2, hM2⟩
      · have hx5 : (if nI j = 0 then some (20 : Int32) else if nI j = 1 then some 20 else some 99) = some 99 := by
          rcases (show j = 2 ∨ j = 3 by omega) with rfl | rfl <;> rfl
        have hx6 : (if 2 ≤ nI j then some (99 : Int64) else some 20) = some 99 := by
          rcases (show j = 2 ∨ j = 3 by omega) with rfl | rfl <;> rfl
        rw [hx5, hx6]
        simp only [rs_b1_some]
        cases g3 : ins p3 0 99 with
        | false =>
          have e1 : (decide ((0 : Int32).toInt ≤ p3.toInt) && decide (p3.toInt ≤ (99 : Int32).toInt)) = false := g3
          have e2 : (decide ((0 : Int64).toInt ≤ p3.toInt) && decide (p3.toInt ≤ (99 : Int64).toInt)) = false := g3
          rw [e1, e2]
          exact ⟨-2, V, f, g, rfl, rfl, hV, hX, hM⟩
        | true =>
          have e1 : (decide ((0 : Int32).toInt ≤ p3.toInt) && decide (p3.toInt ≤ (99 : Int32).toInt)) = true := g3
          have e2 : (decide ((0 : Int64).toInt ≤ p3.toInt) && decide (p3.toInt ≤ (99 : Int64).toInt)) = true := g3
          rw [e1, e2]
          obtain ⟨m, hm, rfl⟩ := ins_of (b := 99) g3
          simp only [itf]
          rcases (show j = 2 ∨ j = 3 by omega) with rfl | rfl
          · have hM2 := MS_up hM (j := 2) (k := k) (v := m) (by omega) hk9
            have hX2 := XS_up hX (j := 2) (k := k) (v := m) (by omega) hk9
            rw [if_pos (show nI 2 = (2 : Int32) from rfl), if_pos (show nI 2 = (2 : Int32) from rfl), s_of3 hX hk9, s_of hX hk9 (j := 2) (by omega) rfl, s_put f hk9 (j := 2) (by omega) rfl, s_at3, s_at (j := 2) rfl, s_at2]
            simp only [rs_b1_some, rs_lt_eq]
            rw [if_neg (show ¬ nI 2 = (3 : Int32) from by decide), if_neg (nI_in (c := 9 * 3 + k) (N := 36) (by omega) (by omega)), nI_clamp (show 9 * 3 + k < 2 ^ 31 by omega), nI_clamp (show 9 * 2 + k < 2 ^ 31 by omega), rM _ _ hM 3 (by omega), rM _ _ hM 2 (by omega)]
            by_cases hm3 : m ≤ V 3 k
            · rw [if_pos (nI_le hm3 (by omega)), if_pos (nI_le hm3 (by omega)), if_neg (gI (c := 9 * 2 + k) (N := 36) (by omega) (by omega)), if_neg (gI (c := 9 * 2 + k) (N := 36) (by omega) (by omega)), if_neg (gI (c := 9 * 2 + k) (N := 36) (by omega) (by omega)), if_neg (gI (c := 9 * 3 + k) (N := 36) (by omega) (by omega)), rM _ _ hM2 2 (by omega), rM _ _ hM2 3 (by omega), vup_s, vup_n V (by omega), if_pos (nI_le hm3 (by omega))]
              refine ⟨nI (V 2 k), vup V 2 k m, _, _, rfl, rfl, ?_, hX2, hM2⟩
              intro a ha
              obtain ⟨w1, w2, w3, w4⟩ := hV a ha
              by_cases hak : a = k
              · subst hak
                exact ⟨by rw [vup_n V (by omega)]; exact w1, by rw [vup_n V (by omega)]; exact w2, by rw [vup_n V (by omega)]; exact w3, by rw [vup_s, vup_n V (by omega)]; exact hm3⟩
              · rw [vup_n V (by omega), vup_n V (by omega), vup_n V (by omega), vup_n V (by omega)]
                exact ⟨w1, w2, w3, w4⟩
            · rw [if_neg (nI_ge (by omega) (by omega)), if_neg (nI_ge (by omega) (by omega))]
              exact ⟨-3, V, f, g, rfl, rfl, hV, hX, hM⟩
          · have hM2 := MS_up hM (j := 3) (k := k) (v := m) (by omega) hk9
            have hX2 := XS_up hX (j := 3) (k := k) (v := m) (by omega) hk9
            rw [if_neg (show ¬ nI 3 = (2 : Int32) from by decide), if_neg (show ¬ nI 3 = (2 : Int32) from by decide), s_of hX hk9 (j := 3) (by omega) rfl, s_put f hk9 (j := 3) (by omega) rfl, s_at (j := 3) rfl, s_at2, s_at3]
            simp only [rs_b1_some, rs_lt_eq]
            rw [if_pos (show nI 3 = (3 : Int32) from rfl), s_of2 hX2 hk9, rs_b1_some, vup_n V (show ¬ (2 = 3 ∧ k = k) by omega), if_neg (nI_in (by omega) (by omega)), if_neg (nI_in (by omega) (by omega)), if_neg (nI_in (by omega) (by omega)), if_neg (nI_in (by omega) (by omega)), nI_clamp (show 9 * 3 + k < 2 ^ 31 by omega), nI_clamp (show 9 * 2 + k < 2 ^ 31 by omega), rM _ _ hM 3 (by omega), rM _ _ hM2 2 (by omega), rM _ _ hM2 3 (by omega), vup_s, vup_n V (show ¬ (2 = 3 ∧ k = k) by omega)]
            have okk : ∀ z, z ≤ m → vok (vup (vup V 3 k m) 2 k z) := by
              intro z hz a ha
              obtain ⟨w1, w2, w3, w4⟩ := hV a ha
              by_cases hak : a = k
              · subst hak
                exact ⟨by rw [vup_n _ (by omega), vup_n V (by omega)]; exact w1, by rw [vup_n _ (by omega), vup_n V (by omega)]; exact w2, by rw [vup_n _ (by omega), vup_s]; exact hm, by rw [vup_s, vup_n _ (by omega), vup_s]; exact hz⟩
              · rw [vup_n _ (by omega), vup_n V (by omega), vup_n _ (by omega), vup_n V (by omega), vup_n _ (by omega), vup_n V (by omega), vup_n _ (by omega), vup_n V (by omega)]
                exact ⟨w1, w2, w3, w4⟩
            by_cases hs : V 2 k ≤ m
            · rw [if_pos (nI_le hs (by omega)), rs_b1_some, if_neg (nI_nlt hs (by omega)), s_put2 _ hk9, rs_b1_some, rs_b1_some]
              refine ⟨nI (V 3 k), vup (vup V 3 k m) 2 k (V 2 k), _, _, rfl, rfl, okk _ hs, XS_up hX2 (by omega) hk9, ?_⟩
              intro a ha b hb
              by_cases hc : b = 2 ∧ a = k
              · obtain ⟨rfl, rfl⟩ := hc
                rw [vup_s, hM2 a ha 2 (by omega), vup_n V (by omega)]
              · rw [vup_n _ hc]
                exact hM2 a ha b hb
            · rw [if_neg (nI_ge (a := m) (b := V 2 k) (by omega) (by omega)), if_neg (gI (c := 9 * 3 + k) (N := 36) (by omega) (by omega)), if_neg (gI (c := 9 * 2 + k) (N := 36) (by omega) (by omega)), if_pos (nI_lt (a := m) (b := V 2 k) (by omega) (by omega)), s_put2 _ hk9]
              exact ⟨nI (V 3 k), vup (vup V 3 k m) 2 k m, _, _, rfl, rfl, okk _ (Nat.le_refl _), XS_up hX2 (by omega) hk9, MS_up hM2 (by omega) hk9⟩
theorem e_told {D : Nat → Nat} (h : sd_ok D) {V : Nat → Nat → Nat} {f g : Nat → Int32} (hX : XS V f) (hM : MS V g) (y c pc : Int32) (p1 : Int32) :
    ∃ (r : Int32), f_X10_told p1 y (nI (D 0)) (nI (D 1)) (nI (D 2)) (nI (D 3)) (nI (D 4)) (nI (D 5)) (nI (D 6)) f c pc = some r ∧ f_X11_told p1 (nI (D 0)) (nI (D 1)) (nI (D 2)) (nI (D 3)) (nI (D 4)) (nI (D 5)) (nI (D 6)) y c pc g = some r := by
  have hb := h.2.1
  unfold f_X10_told f_X11_told
  have hru : ∀ x, f_X4_rule x (nI (D 2)) (nI (D 3)) (nI (D 4)) (nI (D 5)) (nI (D 6)) = f_X11_setting x (nI (D 2)) (nI (D 3)) (nI (D 4)) (nI (D 5)) (nI (D 6)) := fun _ => rfl
  have hst : ∀ x, ∃ z, f_X11_setting x (nI (D 2)) (nI (D 3)) (nI (D 4)) (nI (D 5)) (nI (D 6)) = some z := by
    intro x
    unfold f_X11_setting
    repeat (first | exact ⟨_, rfl⟩ | split)
  have hdf : ∃ r : Int32, (rs_b1 (f_X10_within p1 3 7) (fun (x21 : Int32) => if x21 = 0 then some (-2) else rs_b1 (f_X4_rule (p1 - 3) (nI (D 2)) (nI (D 3)) (nI (D 4)) (nI (D 5)) (nI (D 6))) (fun (x23 : Int32) => some x23))) = some r ∧ (rs_b1 (f_X11_in (p1.toInt64) 3 7) (fun (x23 : Int32) => if x23 = 0 then some (-2) else rs_b1 (f_X11_setting (p1 - 3) (nI (D 2)) (nI (D 3)) (nI (D 4)) (nI (D 5)) (nI (D 6))) (fun (x25 : Int32) => some x25))) = some r := by
    rw [s_within, s_in, hru]
    simp only [rs_b1_some, b2_0]
    obtain ⟨z, hz⟩ := hst (p1 - 3)
    rw [hz]
    cases g2 : ins p1 3 7 with
    | false =>
      have e1 : (decide ((3 : Int32).toInt ≤ p1.toInt) && decide (p1.toInt ≤ (7 : Int32).toInt)) = false := g2
      have e2 : (decide ((3 : Int64).toInt ≤ p1.toInt) && decide (p1.toInt ≤ (7 : Int64).toInt)) = false := g2
      rw [e1, e2]
      exact ⟨-2, rfl, rfl⟩
    | true =>
      have e1 : (decide ((3 : Int32).toInt ≤ p1.toInt) && decide (p1.toInt ≤ (7 : Int32).toInt)) = true := g2
      have e2 : (decide ((3 : Int64).toInt ≤ p1.toInt) && decide (p1.toInt ≤ (7 : Int64).toInt)) = true := g2
      rw [e1, e2]
      exact ⟨z, rfl, rfl⟩
  rw [s_in, rs_b1_some]
  simp only [b2_0]
  have t10 : (10 : Int64).toInt = 10 := rfl
  have t99 : (99 : Int64).toInt = 99 := rfl
  have u10 : (10 : Int32).toInt = 10 := rfl
  rw [t10, t99]
  by_cases hlt : p1 < 10
  · rw [if_pos hlt]
    have hlt2 := (pn_lt _ _).mp hlt
    rw [u10] at hlt2
    have e : (decide ((10 : Int) ≤ p1.toInt) && decide (p1.toInt ≤ 99)) = false := by
      have : ¬ (10 : Int) ≤ p1.toInt := by omega
      simp [this]
    rw [e, iff_]
    by_cases c0 : p1 = 0
    · rw [if_pos c0, if_pos c0]; exact ⟨_, rfl, rfl⟩
    rw [if_neg c0, if_neg c0]
    by_cases c1 : p1 = 1
    · rw [if_pos c1, if_pos c1]; exact ⟨_, rfl, rfl⟩
    rw [if_neg c1, if_neg c1]
    by_cases c2 : p1 = 2
    · rw [if_pos c2, if_pos c2]; exact ⟨_, rfl, rfl⟩
    rw [if_neg c2, if_neg c2]
    by_cases c3 : p1 = 3
    · rw [if_pos c3, if_pos c3]; exact hdf
    rw [if_neg c3, if_neg c3]
    by_cases c4 : p1 = 4
    · rw [if_pos c4, if_pos c4]; exact hdf
    rw [if_neg c4, if_neg c4]
    by_cases c5 : p1 = 5
    · rw [if_pos c5, if_pos c5]; exact hdf
    rw [if_neg c5, if_neg c5]
    by_cases c6 : p1 = 6
    · rw [if_pos c6, if_pos c6]; exact hdf
    rw [if_neg c6, if_neg c6]
    by_cases c7 : p1 = 7
    · rw [if_pos c7, if_pos c7]; exact hdf
    rw [if_neg c7, if_neg c7]
    by_cases c8 : p1 = 8
    · rw [if_pos c8, if_pos c8]; exact ⟨_, rfl, rfl⟩
    rw [if_neg c8, if_neg c8]
    by_cases c9 : p1 = 9
    · rw [if_pos c9, if_pos c9]; exact ⟨_, rfl, rfl⟩
    rw [if_neg c9, if_neg c9]
    exact hdf
  · rw [if_neg hlt]
    have hge : ¬ p1 < 0 := fun z => hlt ((pn_lt _ _).mpr (by have := (pn_lt _ _).mp z; have e0 : (0 : Int32).toInt = 0 := rfl; rw [u10]; omega))
    obtain ⟨q, hq, rfl⟩ := nI_of hge
    have hq10 : 10 ≤ q := by
      rcases Nat.lt_or_ge q 10 with z | z
      · exact absurd (show nI q < (10 : Int32) from nI_lt (b := 10) z (by omega)) hlt
      · exact z
    simp only [rs_lt_eq]
    rw [show (10 : Int32) = nI 10 from rfl, pk_div hq (by omega) (by omega), show (1 : Int32) = nI 1 from rfl, pk_sub (a := q / 10) (b := 1) (by omega)]
    have hrem : nI q - nI (q / 10) * nI 10 = nI (q % 10) := by
      rw [← pk_div hq (by omega) (by omega), pk_rem hq (by omega) (by omega)]
    rw [hrem, s_hasLand _ h.1 h.2.1, s_isLand _ h.1 h.2.1, nI_toInt hq]
    simp only [rs_b1_some, b2_0]
    by_cases h99 : q ≤ 99
    · have e : (decide ((10 : Int) ≤ (q : Int)) && decide ((q : Int) ≤ 99)) = true := by simp; omega
      rw [e, itf]
      cases g1 : isl (nI (q / 10 - 1)) (D 0) with
      | false => exact ⟨-2, rfl, rfl⟩
      | true =>
        rw [isl_nI (by omega)] at g1
        simp at g1
        simp only [itf]
        by_cases h4 : 4 ≤ q % 10
        · rw [if_pos (show (4 : Int32) ≤ nI (q % 10) from nI_le (a := 4) h4 (by omega)), if_pos (show (4 : Int32) ≤ nI (q % 10) from nI_le (a := 4) h4 (by omega))]
          exact ⟨-2, rfl, rfl⟩
        · rw [if_neg (show ¬ (4 : Int32) ≤ nI (q % 10) from nI_ge (b := 4) (by omega) (by omega)), if_neg (show ¬ (4 : Int32) ≤ nI (q % 10) from nI_ge (b := 4) (by omega) (by omega)), s_of hX (by omega) (by omega) rfl, s_at rfl, rs_b1_some, rs_b1_some, if_neg (nI_in (by omega) (by omega)), nI_clamp (by omega), hM _ (by omega) _ (by omega)]
          exact ⟨_, rfl, rfl⟩
    · have e : (decide ((10 : Int) ≤ (q : Int)) && decide ((q : Int) ≤ 99)) = false := by
        have : ¬ ((q : Int) ≤ 99) := by omega
        simp [this]
      rw [e, iff_]
      have hne : ∀ z : Nat, z < 10 → ¬ nI q = nI z := fun z hz e => by
        have := (nI_eq (a := q) (b := z) hq (by omega)).mp e
        omega
      rw [if_neg (show ¬ nI q = (0 : Int32) from hne 0 (by omega)), if_neg (hne 1 (by omega)), if_neg (show ¬ nI q = (2 : Int32) from hne 2 (by omega)), if_neg (show ¬ nI q = (3 : Int32) from hne 3 (by omega)), if_neg (show ¬ nI q = (4 : Int32) from hne 4 (by omega)), if_neg (show ¬ nI q = (5 : Int32) from hne 5 (by omega)), if_neg (show ¬ nI q = (6 : Int32) from hne 6 (by omega)), if_neg (show ¬ nI q = (7 : Int32) from hne 7 (by omega)), if_neg (show ¬ nI q = (8 : Int32) from hne 8 (by omega)), if_neg (show ¬ nI q = (9 : Int32) from hne 9 (by omega))]
      have g1 : isl (nI (q / 10 - 1)) (D 0) = false := by
        rw [isl_nI (by omega)]
        simp
        omega
      rw [g1, iff_, s_in]
      have e7 : (decide ((3 : Int64).toInt ≤ (nI q).toInt) && decide ((nI q).toInt ≤ (7 : Int64).toInt)) = false := by
        have t7 : (7 : Int64).toInt = 7 := rfl
        rw [nI_toInt hq, t7]
        have : ¬ ((q : Int) ≤ 7) := by omega
        simp [this]
      rw [e7]
      exact ⟨-2, rfl, rfl⟩
