abbrev TS : Type := (Nat → Nat → Nat) × Nat × Nat × (Nat → Nat)
def tstep (D S : Nat → Nat) (p : Nat) (s : TS) : TS := if isY (S p) then (Vn D s.1 s.2.1 (ym (S p)), s.2.1 + ym (S p), s.2.2.1 + cs D s.1 s.2.1 (ym (S p)), fun k => s.2.2.2 k + hn D s.1 s.2.1 (ym (S p)) k) else (ld s.1 (S p - 97) (S (p + 1) - 97) (S (p + 2) - 48), s.2.1, s.2.2.1, s.2.2.2)
def tr (D S : Nat → Nat) (s0 : TS) : Nat → TS
  | 0 => s0
  | k + 1 => tstep D S (st S k) (tr D S s0 k)
def bw (D S : Nat → Nat) (s0 : TS) (k : Nat) : Nat := if isY (S (st S k)) then 0 else wn (tr D S s0 k).1 (S (st S k) - 97) (S (st S k + 1) - 97) (S (st S k + 2) - 48)
def fin (D S : Nat → Nat) (s0 : TS) (a F : Nat) (B W : Int32) : Prop := (F = a ∧ (∀ k, k < a → bw D S s0 k = 0) ∧ B = -6 ∧ W = -6) ∨ (∃ kb, kb < a ∧ F = kb + 1 ∧ (∀ k, k < kb → bw D S s0 k = 0) ∧ bw D S s0 kb ≠ 0 ∧ B = nI kb ∧ W = nI (bw D S s0 kb))
theorem ym_b (s : Nat) : 1 ≤ ym s ∧ ym s ≤ 10 := by unfold ym; split <;> omega
theorem tr_y (D S : Nat → Nat) (s0 : TS) : ∀ k, s0.2.1 ≤ (tr D S s0 k).2.1 ∧ (tr D S s0 k).2.1 ≤ s0.2.1 + 10 * k
  | 0 => ⟨Nat.le_refl _, Nat.le_refl _⟩
  | k + 1 => by
    have ih := tr_y D S s0 k
    have hy := ym_b (S (st S k))
    show s0.2.1 ≤ (tstep D S (st S k) (tr D S s0 k)).2.1 ∧ (tstep D S (st S k) (tr D S s0 k)).2.1 ≤ _
    unfold tstep
    split
    · dsimp only; omega
    · dsimp only; omega
theorem tr_ok {D S : Nat → Nat} {s0 : TS} (h : vok s0.1) : ∀ k, vok (tr D S s0 k).1
  | 0 => h
  | k + 1 => by
    have ih := tr_ok (D := D) (S := S) h k
    show vok (tstep D S (st S k) (tr D S s0 k)).1
    unfold tstep
    split
    · exact Vn_ok ih _ _
    · exact ld_ok ih _ _ _
theorem tr_sx (D S : Nat → Nat) (s0 : TS) : ∀ k, sx s0.1 (tr D S s0 k).1
  | 0 => sx_rf _
  | k + 1 => by
    have ih := tr_sx D S s0 k
    show sx s0.1 (tstep D S (st S k) (tr D S s0 k)).1
    unfold tstep
    split
    · exact sx_tr ih (Vn_sx D _ _ _)
    · exact sx_tr ih (ld_sx _ _ _ _)
theorem tr_ind (D S : Nat → Nat) (V : Nat → Nat → Nat) (y h1 h2 : Nat) (u1 u2 : Nat → Nat) : ∀ k, (tr D S (V, y, h1, u1) k).1 = (tr D S (V, y, h2, u2) k).1 ∧ (tr D S (V, y, h1, u1) k).2.1 = (tr D S (V, y, h2, u2) k).2.1
  | 0 => ⟨rfl, rfl⟩
  | k + 1 => by
    obtain ⟨e1, e2⟩ := tr_ind D S V y h1 h2 u1 u2 k
    show (tstep D S (st S k) (tr D S (V, y, h1, u1) k)).1 = (tstep D S (st S k) (tr D S (V, y, h2, u2) k)).1 ∧ (tstep D S (st S k) (tr D S (V, y, h1, u1) k)).2.1 = (tstep D S (st S k) (tr D S (V, y, h2, u2) k)).2.1
    unfold tstep
    split
    · dsimp only; rw [e1, e2]; exact ⟨rfl, rfl⟩
    · dsimp only; rw [e1, e2]; exact ⟨rfl, rfl⟩
theorem bw_ind (D S : Nat → Nat) (V : Nat → Nat → Nat) (y h1 h2 : Nat) (u1 u2 : Nat → Nat) (k : Nat) : bw D S (V, y, h1, u1) k = bw D S (V, y, h2, u2) k := by
  unfold bw
  rw [(tr_ind D S V y h1 h2 u1 u2 k).1]
theorem fin_un {D S : Nat → Nat} {s0 s1 : TS} (hs : ∀ k, bw D S s0 k = bw D S s1 k) {a F1 F2 : Nat} {B1 W1 B2 W2 : Int32} (h1 : fin D S s0 a F1 B1 W1) (h2 : fin D S s1 a F2 B2 W2) : F1 = F2 ∧ B1 = B2 ∧ W1 = W2 := by
  rcases h1 with ⟨a1, a2, a3, a4⟩ | ⟨k, a1, a2, a3, a4, a5, a6⟩
  · rcases h2 with ⟨b1, b2, b3, b4⟩ | ⟨j, b1, b2, b3, b4, b5, b6⟩
    · exact ⟨by omega, by rw [a3, b3], by rw [a4, b4]⟩
    · exact absurd (by rw [← hs]; exact a2 j b1) b4
  · rcases h2 with ⟨b1, b2, b3, b4⟩ | ⟨j, b1, b2, b3, b4, b5, b6⟩
    · exact absurd (by rw [hs]; exact b2 k a1) a4
    · have : k = j := by
        rcases Nat.lt_trichotomy k j with z | z | z
        · exact absurd (by rw [hs]; exact b3 k z) a4
        · exact z
        · exact absurd (by rw [← hs]; exact a3 j z) b4
      subst this
      exact ⟨by omega, by rw [a5, b5], by rw [a6, b6, hs]⟩
theorem rs_b8_some {a1 a2 a3 a4 a5 a6 a7 a8 ζ : Type} (x1 : a1) (x2 : a2) (x3 : a3) (x4 : a4) (x5 : a5) (x6 : a6) (x7 : a7) (x8 : a8) (k : a1 → a2 → a3 → a4 → a5 → a6 → a7 → a8 → Option ζ) : rs_b8 (some (x1, x2, x3, x4, x5, x6, x7, x8)) k = k x1 x2 x3 x4 x5 x6 x7 x8 := rfl
theorem rs_b7_some {a1 a2 a3 a4 a5 a6 a7 ζ : Type} (x1 : a1) (x2 : a2) (x3 : a3) (x4 : a4) (x5 : a5) (x6 : a6) (x7 : a7) (k : a1 → a2 → a3 → a4 → a5 → a6 → a7 → Option ζ) : rs_b7 (some (x1, x2, x3, x4, x5, x6, x7)) k = k x1 x2 x3 x4 x5 x6 x7 := rfl
theorem wn_b (V : Nat → Nat → Nat) (a b v : Nat) : wn V a b v ≤ 3 := by
  unfold wn
  split
  · omega
  · split
    · omega
    · split <;> omega
def run_ (D S : Nat → Nat) (s0 : TS) (j : Nat) (B W : Int32) : Prop := ((∀ k, k < j → bw D S s0 k = 0) ∧ B = -6 ∧ W = -6) ∨ (∃ kb, j = kb + 1 ∧ (∀ k, k < kb → bw D S s0 k = 0) ∧ bw D S s0 kb ≠ 0 ∧ B = nI kb ∧ W = nI (bw D S s0 kb))
theorem s_tell {D : Nat → Nat} (h : sd_ok D) {V : Nat → Nat → Nat} (hV : vok V) {y N : Nat} (hy : y < 2 ^ 22) (hN : 200 < N) {S : Nat → Nat} (hS : ∀ j, j < 60 → S j < 65536) {sg : Nat → Int32} (hsg : ∀ j, j < 60 → sg j = nI (S j)) {c a : Nat} (hc : c ≤ 60) (ha : st S a = c) (hgd : ∀ k, k < a → gd (D 0) S k) {f g : Nat → Int32} (hX : XS V f) (hg0 : ∀ k, k < 9 → g k = nI 0) :
    ∃ F B W f2 g2, fin D S (V, y, 0, fun _ => 0) a F B W ∧ f_X7_tell N (nI y) 0 0 0 (-6) (-6) (nI c) sg (nI (D 0)) (nI (D 1)) (nI (D 2)) (nI (D 3)) (nI (D 4)) (nI (D 5)) (nI (D 6)) f g = some (nI (tr D S (V, y, 0, fun _ => 0) F).2.1, nI ((tr D S (V, y, 0, fun _ => 0) F).2.1 - y), nI (tr D S (V, y, 0, fun _ => 0) F).2.2.1, nI F, B, W, f2, g2) ∧ XS (tr D S (V, y, 0, fun _ => 0) F).1 f2 ∧ ∀ k, k < 9 → g2 k = nI ((tr D S (V, y, 0, fun _ => 0) F).2.2.2 k) := by
  have hb := h.2.1
  generalize hs0 : ((V, y, 0, fun _ => 0) : TS) = s0
  have hV0 : vok s0.1 := by rw [← hs0]; exact hV
  have hy0 : s0.2.1 = y := by rw [← hs0]
  have haa : a ≤ c := by rw [← ha]; exact st_ge S a
  unfold f_X7_tell rs_l9
  obtain ⟨r, h1, h2⟩ := rs_loop_inv (body := fun s : (Nat → Int32) × (Nat → Int32) × Int32 × Int32 × Int32 × Int32 × Int32 × Int32 × Int32 => f_X7_tell_L2 N (nI c) sg (nI (D 0)) (nI (D 1)) (nI (D 2)) (nI (D 3)) (nI (D 4)) (nI (D 5)) (nI (D 6)) s.1 s.2.1 s.2.2.1 s.2.2.2.1 s.2.2.2.2.1 s.2.2.2.2.2.1 s.2.2.2.2.2.2.1 s.2.2.2.2.2.2.2.1 s.2.2.2.2.2.2.2.2) (fun j s => XS (tr D S s0 j).1 s.1 ∧ (∀ k, k < 9 → s.2.1 k = nI ((tr D S s0 j).2.2.2 k)) ∧ s.2.2.1 = nI (tr D S s0 j).2.1 ∧ s.2.2.2.1 = nI ((tr D S s0 j).2.1 - y) ∧ s.2.2.2.2.1 = nI (tr D S s0 j).2.2.1 ∧ s.2.2.2.2.2.1 = nI j ∧ s.2.2.2.2.2.2.2.2 = nI (st S j) ∧ run_ D S s0 j s.2.2.2.2.2.2.1 s.2.2.2.2.2.2.2.1) (fun r => ∃ F B W, fin D S s0 a F B W ∧ XS (tr D S s0 F).1 r.1 ∧ (∀ k, k < 9 → r.2.1 k = nI ((tr D S s0 F).2.2.2 k)) ∧ r.2.2 = (nI (tr D S s0 F).2.1, nI ((tr D S s0 F).2.1 - y), nI (tr D S s0 F).2.2.1, nI F, B, W)) a (by
    rintro j ⟨ce, hu, x1, x2, x3, x4, x5, x6, x7⟩ hj ⟨q1, q2, q3, q4, q5, q6, q7, q8⟩
    dsimp only at q1 q2 q3 q4 q5 q6 q7 q8 ⊢
    subst q3 q4 q5 q6 q7
    obtain ⟨t1, t2⟩ := tr_y D S s0 j
    rw [hy0] at t1 t2
    unfold f_X7_tell_L2
    by_cases hja : j = a
    · subst hja
      rw [ha, if_pos (nI_le (Nat.le_refl _) (by omega))]
      refine Or.inr ⟨_, rfl, j, x5, x6, ?_, q1, q2, rfl⟩
      rcases q8 with ⟨z1, z2, z3⟩ | ⟨kb, z1, z2, z3, z4, z5⟩
      · exact Or.inl ⟨rfl, z1, z2, z3⟩
      · exact Or.inr ⟨kb, by omega, z1, z2, z3, z4, z5⟩
    · have hjl : j < a := by omega
      have hm := st_mono S hjl
      rw [ha] at hm
      have hlt : st S j < c := by
        have : 1 ≤ (if isY (S (st S j)) = true then 1 else 3) := by split <;> omega
        omega
      rw [if_neg (nI_ge hlt (by omega))]
      rcases q8 with ⟨z1, z2, z3⟩ | ⟨kb, z1, z2, z3, z4, z5⟩
      · subst z2 z3
        rw [if_pos rfl, s_isYears hS hsg (by omega), rs_b1_some]
        have hsS := hS (st S j) (by omega)
        rcases hgd j hjl with gy | ⟨gy, gl1, gl2, g3, g4⟩
        · rw [gy, if_neg (show ¬ b2 true = 0 by decide), s_signAt hS hsg (by omega), rs_b1_some]
          have eym : (if nI (S (st S j)) = (46 : Int32) then some (1 : Int32) else some 10) = some (nI (ym (S (st S j)))) := by
            unfold ym
            by_cases c1 : S (st S j) = 46
            · rw [c1]; rfl
            · rw [if_neg (show ¬ nI (S (st S j)) = (46 : Int32) from fun e => c1 ((nI_eq (b := 46) (by omega) (by omega)).mp e)), if_neg c1]; rfl
          have hym := ym_b (S (st S j))
          obtain ⟨f2, g2, e1, e2, e3⟩ := s_passYears h (tr_ok hV0 j) (y := (tr D S s0 j).2.1) (m := ym (S (st S j))) (N := N) (by omega) (by omega) (by omega) q1 q2 ((tr D S s0 j).2.1 - y) (tr D S s0 j).2.2.1
          rw [eym, rs_b1_some, e1, rs_b5_some, rs_b8_some, rs_lt_eq, nI_1, nI_1]
          have et : tr D S s0 (j + 1) = (Vn D (tr D S s0 j).1 (tr D S s0 j).2.1 (ym (S (st S j))), (tr D S s0 j).2.1 + ym (S (st S j)), (tr D S s0 j).2.2.1 + cs D (tr D S s0 j).1 (tr D S s0 j).2.1 (ym (S (st S j))), fun k => (tr D S s0 j).2.2.2 k + hn D (tr D S s0 j).1 (tr D S s0 j).2.1 (ym (S (st S j))) k) := by
            show tstep D S (st S j) (tr D S s0 j) = _
            unfold tstep
            rw [gy]
            rfl
          have es : st S (j + 1) = st S j + 1 := by
            show st S j + (if isY (S (st S j)) then 1 else 3) = _
            rw [gy]
            rfl
          refine Or.inl ⟨_, rfl, ⟨?_, ?_, ?_, ?_, ?_, rfl, ?_, ?_⟩, by omega⟩
          · rw [et]; exact e2
          · rw [et]; exact e3
          · rw [et]
          · rw [et]
            dsimp only
            rw [show (tr D S s0 j).2.1 + ym (S (st S j)) - y = (tr D S s0 j).2.1 - y + ym (S (st S j)) by omega]
          · rw [et]
          · rw [es]
          · refine Or.inl ⟨fun k hk => ?_, rfl, rfl⟩
            by_cases hkj : k = j
            · subst hkj
              unfold bw
              rw [gy]
              rfl
            · exact z1 k (by omega)
        · rw [gy] at hm
          simp at hm
          have hs1 := hS (st S j + 1) (by omega)
          have hs2 := hS (st S j + 2) (by omega)
          unfold isL at gl1 gl2
          have el1 : f_X3_landAt (nI (st S j)) sg = some (nI (S (st S j) - 97)) := by
            unfold f_X3_landAt
            rw [s_signAt hS hsg (by omega), rs_b1_some, show (97 : Int32) = nI 97 from rfl, pk_sub (by omega)]
          have el2 : f_X3_landAt (nI (st S j) + 1) sg = some (nI (S (st S j + 1) - 97)) := by
            unfold f_X3_landAt
            rw [nI_1, s_signAt hS hsg (by omega), rs_b1_some, show (97 : Int32) = nI 97 from rfl, pk_sub (by omega)]
          have el3 : f_X3_digitAt (nI (st S j) + 2) sg = some (nI (S (st S j + 2) - 48)) := by
            unfold f_X3_digitAt
            rw [show (2 : Int32) = nI 2 from rfl, nI_add, s_signAt hS hsg (by omega), rs_b1_some, show (48 : Int32) = nI 48 from rfl, pk_sub (by omega)]
          obtain ⟨f2, e1, e2⟩ := s_lend (tr_ok hV0 j) q1 (a := S (st S j) - 97) (b := S (st S j + 1) - 97) (v := S (st S j + 2) - 48) (by omega) (by omega) (by omega)
          rw [gy, if_pos (show b2 false = 0 from rfl), el1, rs_b1_some, el2, rs_b1_some, el3, rs_b1_some, e1, rs_b2_some]
          have hwb := wn_b (tr D S s0 j).1 (S (st S j) - 97) (S (st S j + 1) - 97) (S (st S j + 2) - 48)
          have ebw : bw D S s0 j = wn (tr D S s0 j).1 (S (st S j) - 97) (S (st S j + 1) - 97) (S (st S j + 2) - 48) := by
            unfold bw
            rw [gy]
            rfl
          have et : tr D S s0 (j + 1) = (ld (tr D S s0 j).1 (S (st S j) - 97) (S (st S j + 1) - 97) (S (st S j + 2) - 48), (tr D S s0 j).2.1, (tr D S s0 j).2.2.1, (tr D S s0 j).2.2.2) := by
            show tstep D S (st S j) (tr D S s0 j) = _
            unfold tstep
            rw [gy]
            rfl
          have es : st S (j + 1) = st S j + 3 := by
            show st S j + (if isY (S (st S j)) then 1 else 3) = _
            rw [gy]
            rfl
          rw [← ebw] at hwb ⊢
          by_cases cw : bw D S s0 j = 0
          · rw [cw, if_pos (show nI 0 = 0 from rfl), rs_b2_some, rs_b8_some, rs_lt_eq, nI_1, show (3 : Int32) = nI 3 from rfl, nI_add]
            refine Or.inl ⟨_, rfl, ⟨?_, ?_, ?_, ?_, ?_, rfl, ?_, ?_⟩, by omega⟩
            · rw [et]; exact e2
            · rw [et]; exact q2
            · rw [et]
            · rw [et]
            · rw [et]
            · rw [es]
            · refine Or.inl ⟨fun k hk => ?_, rfl, rfl⟩
              by_cases hkj : k = j
              · subst hkj; exact cw
              · exact z1 k (by omega)
          · rw [if_neg (nI_ne0 (by omega) (by omega)), rs_b2_some, rs_b8_some, rs_lt_eq, nI_1, show (3 : Int32) = nI 3 from rfl, nI_add]
            refine Or.inl ⟨_, rfl, ⟨?_, ?_, ?_, ?_, ?_, rfl, ?_, ?_⟩, by omega⟩
            · rw [et]; exact e2
            · rw [et]; exact q2
            · rw [et]
            · rw [et]
            · rw [et]
            · rw [es]
            · exact Or.inr ⟨j, rfl, z1, cw, rfl, rfl⟩
      · subst z4 z5
        rw [if_neg (nI_m6 (by omega))]
        exact Or.inr ⟨_, rfl, j, _, _, Or.inr ⟨kb, by omega, z1, z2, z3, rfl, rfl⟩, q1, q2, rfl⟩) N 0 (f, g, nI y, 0, 0, 0, -6, -6, 0) (by omega) (by omega) ⟨by rw [← hs0]; exact hX, by rw [← hs0]; exact hg0, by rw [← hs0]; rfl, by rw [← hs0]; dsimp only [tr]; rw [Nat.sub_self]; rfl, by rw [← hs0]; rfl, rfl, rfl, Or.inl ⟨fun k hk => by omega, rfl, rfl⟩⟩
  obtain ⟨r1, r2, r3⟩ := r
  obtain ⟨F, B, W, w0, w1, w2, w3⟩ := h2
  dsimp only at w1 w2 w3
  subst w3
  rw [h1, rs_b8_some]
  exact ⟨F, B, W, r1, r2, w0, rfl, w1, w2⟩
theorem s_goYears {D : Nat → Nat} (h : sd_ok D) {V : Nat → Nat → Nat} (hV : vok V) {y m N k0 : Nat} (hy : y + m < 2 ^ 23) (hm : m ≤ 100) (hN : 200 < N) (hk0 : k0 < 60) {ac : Nat → Int32} (hac : ac k0 = nI m) {f g : Nat → Int32} (hX : MS V f) {hu : Nat → Nat} (hg0 : ∀ k, k < 9 → g k = nI (hu k)) (hs ys : Nat) :
    ∃ f2 g2, rs_l6 (f_X11_goAges_L135 N (nI k0) ac (nI (D 0)) (nI (D 1)) (nI (D 2)) (nI (D 3)) (nI (D 4)) (nI (D 5)) (nI (D 6))) N f g (nI hs) (nI ys) (nI y) 0 = some (f2, g2, nI (hs + cs D V y m), nI (ys + m), nI (y + m)) ∧ MS (Vn D V y m) f2 ∧ ∀ k, k < 9 → g2 k = nI (hu k + hn D V y m k) := by
  unfold rs_l6
  obtain ⟨r, h1, h2⟩ := rs_loop_inv (body := fun s : (Nat → Int32) × (Nat → Int32) × Int32 × Int32 × Int32 × Int32 => f_X11_goAges_L135 N (nI k0) ac (nI (D 0)) (nI (D 1)) (nI (D 2)) (nI (D 3)) (nI (D 4)) (nI (D 5)) (nI (D 6)) s.1 s.2.1 s.2.2.1 s.2.2.2.1 s.2.2.2.2.1 s.2.2.2.2.2) (fun i s => MS (Vn D V y i) s.1 ∧ (∀ k, k < 9 → s.2.1 k = nI (hu k + hn D V y i k)) ∧ s.2.2.1 = nI (hs + cs D V y i) ∧ s.2.2.2.1 = nI (ys + i) ∧ s.2.2.2.2.1 = nI (y + i) ∧ s.2.2.2.2.2 = nI i) (fun r => MS (Vn D V y m) r.1 ∧ (∀ k, k < 9 → r.2.1 k = nI (hu k + hn D V y m k)) ∧ r.2.2.1 = nI (hs + cs D V y m) ∧ r.2.2.2.1 = nI (ys + m) ∧ r.2.2.2.2 = nI (y + m)) m (by
    rintro i ⟨a, b, c1, c2, c3, c4⟩ hi ⟨q1, q2, q3, q4, q5, q6⟩
    dsimp only at q1 q2 q3 q4 q5 q6 ⊢
    subst q3 q4 q5 q6
    unfold f_X11_goAges_L135
    rw [if_neg (nI_in (by omega) (by omega)), nI_clamp (by omega), hac]
    by_cases hc : m ≤ i
    · have : i = m := by omega
      rw [if_pos (nI_le hc (by omega))]
      subst this
      exact Or.inr ⟨_, rfl, q1, q2, rfl, rfl, rfl⟩
    · obtain ⟨f2, g2, e1, e2, e3⟩ := s_pyM h (Vn_ok hV y i) (y := y + i) (N := N) (by omega) (by omega) q1 q2 (hs + cs D V y i)
      rw [if_neg (nI_ge (by omega) (by omega)), e1, rs_b5_some, nI_1, nI_1, rs_lt_eq]
      refine Or.inl ⟨_, rfl, ⟨e2, ?_, ?_, rfl, rfl, rfl⟩, by omega⟩
      · intro k hk
        dsimp only
        rw [e3 k hk, Nat.add_assoc]
        rfl
      · dsimp only
        rw [Nat.add_assoc]
        rfl) N 0 (f, g, nI hs, nI ys, nI y, 0) (by omega) (by omega) ⟨hX, fun k hk => by dsimp only; rw [hg0 k hk]; rfl, rfl, rfl, rfl, rfl⟩
  obtain ⟨r1, r2, r3, r4, r5⟩ := r
  obtain ⟨w1, w2, w3, w4, w5⟩ := h2
  dsimp only at w1 w2 w3 w4 w5
  rw [h1, w3, w4, w5]
  exact ⟨r1, r2, rfl, w1, w2⟩
theorem s_goAges {D : Nat → Nat} (h : sd_ok D) {V : Nat → Nat → Nat} (hV : vok V) {y N : Nat} (hy : y < 2 ^ 22) (hN : 200 < N) {S : Nat → Nat} {a : Nat} (ha60 : a ≤ 60) (hgd : ∀ k, k < a → gd (D 0) S k) {ac fr to mu : Nat → Int32} (hrc : ∀ k, k < a → rcd S ac fr to mu k) {f g : Nat → Int32} (hX : MS V f) (hs : Nat) {hu : Nat → Nat} (hg0 : ∀ k, k < 9 → g k = nI (hu k)) :
    ∃ F B W f2 g2, fin D S (V, y, hs, hu) a F B W ∧ f_X11_goAges N (nI (D 0)) (nI (D 1)) (nI (D 2)) (nI (D 3)) (nI (D 4)) (nI (D 5)) (nI (D 6)) (nI y) (nI a) (nI hs) ac fr to mu f g = some (nI (tr D S (V, y, hs, hu) F).2.1, nI (tr D S (V, y, hs, hu) F).2.2.1, B, W, nI ((tr D S (V, y, hs, hu) F).2.1 - y), f2, g2) ∧ MS (tr D S (V, y, hs, hu) F).1 f2 ∧ ∀ k, k < 9 → g2 k = nI ((tr D S (V, y, hs, hu) F).2.2.2 k) := by
  have hb := h.2.1
  generalize hs0 : ((V, y, hs, hu) : TS) = s0
  have hV0 : vok s0.1 := by rw [← hs0]; exact hV
  have hy0 : s0.2.1 = y := by rw [← hs0]
  unfold f_X11_goAges rs_l8
  obtain ⟨r, h1, h2⟩ := rs_loop_inv (body := fun s : (Nat → Int32) × (Nat → Int32) × Int32 × Int32 × Int32 × Int32 × Int32 × Int32 => f_X11_goAges_L19 N (nI a) ac fr to mu (nI (D 0)) (nI (D 1)) (nI (D 2)) (nI (D 3)) (nI (D 4)) (nI (D 5)) (nI (D 6)) s.1 s.2.1 s.2.2.1 s.2.2.2.1 s.2.2.2.2.1 s.2.2.2.2.2.1 s.2.2.2.2.2.2.1 s.2.2.2.2.2.2.2) (fun j s => MS (tr D S s0 j).1 s.1 ∧ (∀ k, k < 9 → s.2.1 k = nI ((tr D S s0 j).2.2.2 k)) ∧ s.2.2.1 = nI (tr D S s0 j).2.2.1 ∧ s.2.2.2.2.2.1 = nI ((tr D S s0 j).2.1 - y) ∧ s.2.2.2.2.2.2.1 = nI (tr D S s0 j).2.1 ∧ s.2.2.2.2.2.2.2 = nI j ∧ run_ D S s0 j s.2.2.2.1 s.2.2.2.2.1) (fun r => ∃ F B W, fin D S s0 a F B W ∧ MS (tr D S s0 F).1 r.1 ∧ (∀ k, k < 9 → r.2.1 k = nI ((tr D S s0 F).2.2.2 k)) ∧ r.2.2 = (nI (tr D S s0 F).2.2.1, B, W, nI ((tr D S s0 F).2.1 - y), nI (tr D S s0 F).2.1)) a (by
    rintro j ⟨ce, hu2, x1, x2, x3, x4, x5, x6⟩ hj ⟨q1, q2, q3, q4, q5, q6, q8⟩
    dsimp only at q1 q2 q3 q4 q5 q6 q8 ⊢
    subst q3 q4 q5 q6
    obtain ⟨t1, t2⟩ := tr_y D S s0 j
    rw [hy0] at t1 t2
    unfold f_X11_goAges_L19
    by_cases hja : j = a
    · subst hja
      rw [if_pos (nI_le (Nat.le_refl _) (by omega))]
      refine Or.inr ⟨_, rfl, j, x2, x3, ?_, q1, q2, rfl⟩
      rcases q8 with ⟨z1, z2, z3⟩ | ⟨kb, z1, z2, z3, z4, z5⟩
      · exact Or.inl ⟨rfl, z1, z2, z3⟩
      · exact Or.inr ⟨kb, by omega, z1, z2, z3, z4, z5⟩
    · have hjl : j < a := by omega
      have hga : ¬ (nI j < 0 ∨ 60 ≤ j) := gI (by omega) (by omega)
      rw [if_neg (nI_ge hjl (by omega))]
      rcases q8 with ⟨z1, z2, z3⟩ | ⟨kb, z1, z2, z3, z4, z5⟩
      · subst z2 z3
        rw [if_neg (show ¬ (0 : Int32) ≤ -6 by decide), nI_clamp (by omega)]
        simp only [if_neg hga]
        rcases hrc j hjl with ⟨gy, ga⟩ | ⟨gy, ga, gf, gt, gm⟩
        · have hym := ym_b (S (st S j))
          obtain ⟨f2, g2, e1, e2, e3⟩ := s_goYears h (tr_ok hV0 j) (y := (tr D S s0 j).2.1) (m := ym (S (st S j))) (N := N) (k0 := j) (by omega) (by omega) (by omega) (by omega) ga q1 q2 (tr D S s0 j).2.2.1 ((tr D S s0 j).2.1 - y)
          rw [ga, if_neg (nI_nle (by omega) (by omega)), rs_b1_some, if_pos (show (0 : Int32) ≤ 0 by decide), if_pos (show (0 : Int32) ≤ 0 by decide), rs_b1_some, rs_b1_some, if_neg (nI_ne0 (by omega) (by omega)), rs_b1_some, e1, rs_b5_some, nI_1]
          have et : tr D S s0 (j + 1) = (Vn D (tr D S s0 j).1 (tr D S s0 j).2.1 (ym (S (st S j))), (tr D S s0 j).2.1 + ym (S (st S j)), (tr D S s0 j).2.2.1 + cs D (tr D S s0 j).1 (tr D S s0 j).2.1 (ym (S (st S j))), fun k => (tr D S s0 j).2.2.2 k + hn D (tr D S s0 j).1 (tr D S s0 j).2.1 (ym (S (st S j))) k) := by
            show tstep D S (st S j) (tr D S s0 j) = _
            unfold tstep
            rw [gy]
            rfl
          refine Or.inl ⟨_, rfl, ⟨?_, ?_, ?_, ?_, ?_, rfl, ?_⟩, by omega⟩
          · rw [et]; exact e2
          · rw [et]; exact e3
          · rw [et]
          · rw [et]
            dsimp only
            rw [show (tr D S s0 j).2.1 + ym (S (st S j)) - y = (tr D S s0 j).2.1 - y + ym (S (st S j)) by omega]
          · rw [et]
          · refine Or.inl ⟨fun k hk => ?_, rfl, rfl⟩
            by_cases hkj : k = j
            · subst hkj
              unfold bw
              rw [gy]
              rfl
            · exact z1 k (by omega)
        · have gg := hgd j hjl
          rcases gg with gg | ⟨-, gl1, gl2, g3, g4⟩
          · rw [gy] at gg; cases gg
          unfold isL at gl1 gl2
          rw [show (97 : Int32) = nI 97 from rfl, pk_sub (by omega)] at gf gt
          rw [show (48 : Int32) = nI 48 from rfl, pk_sub (by omega)] at gm
          have hwb := wn_b (tr D S s0 j).1 (S (st S j) - 97) (S (st S j + 1) - 97) (S (st S j + 2) - 48)
          have ebw : bw D S s0 j = wn (tr D S s0 j).1 (S (st S j) - 97) (S (st S j + 1) - 97) (S (st S j + 2) - 48) := by
            unfold bw
            rw [gy]
            rfl
          have et : tr D S s0 (j + 1) = (ld (tr D S s0 j).1 (S (st S j) - 97) (S (st S j + 1) - 97) (S (st S j + 2) - 48), (tr D S s0 j).2.1, (tr D S s0 j).2.2.1, (tr D S s0 j).2.2.2) := by
            show tstep D S (st S j) (tr D S s0 j) = _
            unfold tstep
            rw [gy]
            rfl
          rw [ga, if_pos (show nI 0 ≤ 0 by decide), gf, gt, gm, s_why (tr_ok hV0 j) q1 (by omega) (by omega) (by omega), rs_b1_some, rs_b1_some, if_pos (show nI 0 = 0 from rfl)]
          rw [← ebw] at hwb ⊢
          by_cases cw : bw D S s0 j = 0
          · obtain ⟨f2, e1, e2⟩ := s_lendM (tr_ok hV0 j) q1 (a := S (st S j) - 97) (b := S (st S j + 1) - 97) (v := S (st S j + 2) - 48) (by omega) (by omega) (by omega) (by rw [← ebw]; exact cw)
            obtain ⟨f3, g3', e3, e4, e5⟩ := s_goYears h (ld_ok (tr_ok hV0 j) (S (st S j) - 97) (S (st S j + 1) - 97) (S (st S j + 2) - 48)) (y := (tr D S s0 j).2.1) (m := 0) (N := N) (k0 := j) (by omega) (by omega) (by omega) (by omega) ga e2 q2 (tr D S s0 j).2.2.1 ((tr D S s0 j).2.1 - y)
            rw [cw, if_pos (show nI 0 ≤ 0 by decide), if_pos (show nI 0 ≤ 0 by decide), rs_b1_some, rs_b1_some, if_pos (show nI 0 = 0 from rfl), e1, rs_b1_some, rs_b1_some, e3, rs_b5_some, nI_1]
            refine Or.inl ⟨_, rfl, ⟨?_, ?_, ?_, ?_, ?_, rfl, ?_⟩, by omega⟩
            · rw [et]; exact e4
            · rw [et]; exact e5
            · rw [et]; rfl
            · rw [et]; rfl
            · rw [et]; rfl
            · refine Or.inl ⟨fun k hk => ?_, rfl, rfl⟩
              by_cases hkj : k = j
              · subst hkj; exact cw
              · exact z1 k (by omega)
          · obtain ⟨f3, g3', e3, e4, e5⟩ := s_goYears h (tr_ok hV0 j) (y := (tr D S s0 j).2.1) (m := 0) (N := N) (k0 := j) (by omega) (by omega) (by omega) (by omega) ga q1 q2 (tr D S s0 j).2.2.1 ((tr D S s0 j).2.1 - y)
            have hnb : ¬ nI (bw D S s0 j) ≤ 0 := nI_nle (by omega) (by omega)
            rw [if_neg hnb, if_neg hnb, rs_b1_some, rs_b1_some, if_neg (nI_ne0 (by omega) (by omega)), rs_b1_some, e3, rs_b5_some, nI_1]
            have eld : ld (tr D S s0 j).1 (S (st S j) - 97) (S (st S j + 1) - 97) (S (st S j + 2) - 48) = (tr D S s0 j).1 := by
              unfold ld
              rw [if_neg (by rw [← ebw]; exact cw)]
            refine Or.inl ⟨_, rfl, ⟨?_, ?_, ?_, ?_, ?_, rfl, ?_⟩, by omega⟩
            · rw [et, eld]; exact e4
            · rw [et]; exact e5
            · rw [et]; rfl
            · rw [et]; rfl
            · rw [et]; rfl
            · exact Or.inr ⟨j, rfl, z1, cw, rfl, rfl⟩
      · subst z4 z5
        rw [if_pos (nI_pos' (by omega))]
        exact Or.inr ⟨_, rfl, j, _, _, Or.inr ⟨kb, by omega, z1, z2, z3, rfl, rfl⟩, q1, q2, rfl⟩) N 0 (f, g, nI hs, -6, -6, 0, nI y, 0) (by omega) (by omega) ⟨by rw [← hs0]; exact hX, by rw [← hs0]; exact hg0, by rw [← hs0]; rfl, by rw [← hs0]; dsimp only [tr]; rw [Nat.sub_self]; rfl, by rw [← hs0]; rfl, rfl, Or.inl ⟨fun k hk => by omega, rfl, rfl⟩⟩
  obtain ⟨r1, r2, r3⟩ := r
  obtain ⟨F, B, W, w0, w1, w2, w3⟩ := h2
  dsimp only at w1 w2 w3
  subst w3
  rw [h1, rs_b7_some]
  exact ⟨F, B, W, r1, r2, w0, rfl, w1, w2⟩
