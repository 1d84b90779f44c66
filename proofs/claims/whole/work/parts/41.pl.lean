def ym (s : Nat) : Nat := if s = 46 then 1 else 10
def rcd (S : Nat → Nat) (ac fr to mu : Nat → Int32) (k : Nat) : Prop := (isY (S (st S k)) = true ∧ ac k = nI (ym (S (st S k)))) ∨ (isY (S (st S k)) = false ∧ ac k = nI 0 ∧ fr k = nI (S (st S k)) - 97 ∧ to k = nI (S (st S k + 1)) - 97 ∧ mu k = nI (S (st S k + 2)) - 48)
theorem rcd_up {S : Nat → Nat} {ac fr to mu ac2 fr2 to2 mu2 : Nat → Int32} {k : Nat} (h : rcd S ac fr to mu k) (h1 : ac2 k = ac k) (h2 : fr2 k = fr k) (h3 : to2 k = to k) (h4 : mu2 k = mu k) : rcd S ac2 fr2 to2 mu2 k := by
  unfold rcd at h ⊢
  rw [h1, h2, h3, h4]
  exact h
theorem rs_m6_inl {a1 a2 a3 a4 a5 a6 ζ : Type} (x1 : a1) (x2 : a2) (x3 : a3) (x4 : a4) (x5 : a5) (x6 : a6) (k : a1 → a2 → a3 → a4 → a5 → a6 → Option ζ) : rs_m6 (some (.inl (x1, x2, x3, x4, x5, x6))) k = k x1 x2 x3 x4 x5 x6 := rfl
theorem nI_m6 {i : Nat} (hi : i < 2 ^ 31) : nI i ≠ -6 := fun e => by
  have h := congrArg Int32.toInt e
  rw [nI_toInt hi] at h
  have : (-6 : Int32).toInt = -6 := rfl
  omega
theorem s_faultM {n : Nat} (hn : 2 ≤ n) (hn2 : n ≤ 9) {S : Nat → Nat} (hS : ∀ j, j < 60 → S j < 65536) {f : Nat → Int32} (hf : ∀ j, j < 60 → f j = nI (S j)) {c N : Nat} (hc : c ≤ 60) (hN : 100 < N) (u1 u2 u3 u4 : Nat → Int32) :
    ∃ r q w1 w2 w3 w4, f_X11_fault N (nI n) (nI c) f u1 u2 u3 u4 = some (r, q, w1, w2, w3, w4) ∧ fok n S c r ∧ (r = -6 → ∃ a, q = nI a ∧ st S a = c ∧ ∀ k, k < a → rcd S w1 w2 w3 w4 k) := by
  unfold f_X11_fault rs_l7
  obtain ⟨r, h1, h2⟩ := rs_loop_inv (body := fun s : (Nat → Int32) × (Nat → Int32) × (Nat → Int32) × (Nat → Int32) × Int32 × Int32 × Int32 => f_X11_fault_L9 (nI c) f (nI n) s.1 s.2.1 s.2.2.1 s.2.2.2.1 s.2.2.2.2.1 s.2.2.2.2.2.1 s.2.2.2.2.2.2) (fun i s => s.2.2.2.2.2.2 = nI i ∧ ∃ a d, pdu n S i = some d ∧ st S a + d = i ∧ s.2.2.2.2.1 = nI a ∧ s.2.2.2.2.2.1 = nI d ∧ (∀ k, k < a → rcd S s.1 s.2.1 s.2.2.1 s.2.2.2.1 k) ∧ (1 ≤ d → isY (S (st S a)) = false ∧ s.2.1 a = nI (S (st S a)) - 97) ∧ (2 ≤ d → s.2.2.1 a = nI (S (st S a + 1)) - 97)) (fun r => (∃ a d w1 w2 w3 w4, pdu n S c = some d ∧ st S a + d = c ∧ r = .inl (w1, w2, w3, w4, nI a, nI d) ∧ ∀ k, k < a → rcd S w1 w2 w3 w4 k) ∨ (∃ i q w1 w2 w3 w4, i < c ∧ (∃ d, pdu n S i = some d) ∧ pdu n S (i + 1) = none ∧ r = .inr (nI i, q, w1, w2, w3, w4))) c (by
    rintro i ⟨g1, g2, g3, g4, x1, x2, x3⟩ hi ⟨q0, a, d, q1, q2, q3, q4, q5, q6, q7⟩
    dsimp only at q0 q3 q4 q5 q6 q7 ⊢
    subst q0 q3 q4
    have hd := pdu_le q1
    have hsa := st_ge S a
    unfold f_X11_fault_L9
    by_cases hci : c ≤ i
    · have : i = c := by omega
      rw [if_pos (nI_le hci (by omega))]
      subst this
      exact Or.inr ⟨_, rfl, Or.inl ⟨a, d, _, _, _, _, q1, q2, rfl, q5⟩⟩
    · rw [if_neg (nI_ge (by omega) (by omega)), if_neg (nI_in (by omega) (by omega)), nI_clamp (n := i) (by omega), hf i (by omega), rs_lt_eq]
      have hs := hS i (by omega)
      have hp : pdu n S (i + 1) = nxt n d (S i) := by
        show (pdu n S i).bind _ = _
        rw [q1]
        rfl
      have hga : ¬ (nI a < 0 ∨ 60 ≤ a) := gI (by omega) (by omega)
      rw [s_digOkM hs, s_landOkM hs hn hn2]
      simp only [if_neg hga, nI_clamp (show a < 2 ^ 31 by omega), rs_b1_some, b2_0]
      have ey : ∀ z : Bool, isY (S i) = z → (if nI (S i) = (46 : Int32) then some (1 : Int32) else if nI (S i) = (58 : Int32) then some 1 else some 0) = some (b2 z) := by
        intro z hz
        subst hz
        unfold isY
        by_cases c1 : S i = 46
        · rw [c1]; rfl
        · rw [if_neg (show ¬ nI (S i) = (46 : Int32) from fun e => c1 ((nI_eq (b := 46) (by omega) (by omega)).mp e))]
          by_cases c2 : S i = 58
          · rw [c2]; rfl
          · rw [if_neg (show ¬ nI (S i) = (58 : Int32) from fun e => c2 ((nI_eq (b := 58) (by omega) (by omega)).mp e))]
            simp [c1, c2]
            rfl
      have ebb : ∀ z : Bool, (if z = false then some (0 : Int32) else some 1) = some (b2 z) := fun z => by cases z <;> rfl
      rw [ebb, ebb]
      rcases (show d = 0 ∨ d = 1 ∨ d = 2 by omega) with rfl | rfl | rfl
      · rw [if_pos (show nI 0 = (0 : Int32) from rfl)]
        unfold nxt at hp
        have hi0 : st S a = i := by omega
        cases hy : isY (S i) with
        | true =>
          rw [if_pos ⟨rfl, hy⟩] at hp
          rw [ey true hy, rs_b1_some, if_neg (show ¬ b2 true = 0 by decide), rs_b1_some, if_neg (show ¬ (1 : Int32) = 0 by decide)]
          have eym : (if nI (S i) = (46 : Int32) then some (1 : Int32) else some 10) = some (nI (ym (S i))) := by
            unfold ym
            by_cases c1 : S i = 46
            · rw [c1]; rfl
            · rw [if_neg (show ¬ nI (S i) = (46 : Int32) from fun e => c1 ((nI_eq (b := 46) (by omega) (by omega)).mp e)), if_neg c1]; rfl
          simp only [if_neg (show ¬ b2 true = 0 by decide), eym, rs_b1_some, rs_b4_some, rs_lt_eq, nI_1]
          refine Or.inl ⟨_, rfl, ⟨rfl, a + 1, 0, hp, ?_, rfl, rfl, ?_, fun z => by omega, fun z => by omega⟩, by omega⟩
          · show st S a + (if isY (S (st S a)) then 1 else 3) + 0 = i + 1
            rw [hi0, hy]
            rfl
          · intro k hk
            dsimp only
            by_cases hka : k = a
            · subst hka
              left
              rw [hi0]
              exact ⟨hy, pk_us⟩
            · exact rcd_up (q5 k (by omega)) (pk_un hka) rfl rfl rfl
        | false =>
          rw [if_neg (fun z => by rw [hy] at z; cases z.2), if_pos (by omega)] at hp
          rw [ey false hy, rs_b1_some, if_pos (show b2 false = 0 from rfl), if_neg (show ¬ (2 : Int32) ≤ nI 0 by decide), rs_b1_some]
          cases hl : lnd n (S i) with
          | true =>
            unfold lnd at hl
            simp at hl
            rw [if_pos hl] at hp
            rw [if_neg (show ¬ b2 true = 0 by decide)]
            simp only [if_pos (show b2 false = 0 from rfl), if_pos (show nI 0 = (0 : Int32) from rfl), if_neg (show ¬ nI 0 = (2 : Int32) by decide), rs_b1_some, rs_b4_some, rs_lt_eq, nI_1]
            rw [show nI a + (0 : Int32) = nI (a + 0) from nI_add a 0]
            refine Or.inl ⟨_, rfl, ⟨rfl, a, 1, hp, by omega, rfl, rfl, ?_, ?_, fun z => by omega⟩, by omega⟩
            · intro k hk
              exact rcd_up (q5 k hk) rfl (pk_un (by omega)) rfl rfl
            · intro _
              dsimp only
              rw [hi0]
              exact ⟨hy, pk_us⟩
          | false =>
            unfold lnd at hl
            simp at hl
            rw [if_neg (fun z => by have := hl z.1; omega)] at hp
            rw [if_pos (show b2 false = 0 from rfl)]
            exact Or.inr ⟨_, rfl, Or.inr ⟨i, _, _, _, _, _, by omega, ⟨0, q1⟩, hp, rfl⟩⟩
      · rw [if_neg (show ¬ nI 1 = (0 : Int32) by decide), rs_b1_some, if_pos rfl, if_neg (show ¬ (2 : Int32) ≤ nI 1 by decide), rs_b1_some]
        unfold nxt at hp
        rw [if_neg (fun z => by omega), if_pos (by omega)] at hp
        obtain ⟨y1, y2⟩ := q6 (by omega)
        have hi1 : st S a + 1 = i := by omega
        cases hl : lnd n (S i) with
        | true =>
          unfold lnd at hl
          simp at hl
          rw [if_pos hl] at hp
          rw [if_neg (show ¬ b2 true = 0 by decide)]
          simp only [↓reduceIte, if_neg (show ¬ nI 1 = (0 : Int32) by decide), if_pos (show nI 1 = (1 : Int32) from rfl), if_neg (show ¬ nI 1 = (2 : Int32) by decide), rs_b1_some, rs_b4_some, rs_lt_eq, nI_1]
          rw [show nI a + (0 : Int32) = nI (a + 0) from nI_add a 0]
          refine Or.inl ⟨_, rfl, ⟨rfl, a, 2, hp, by omega, rfl, rfl, ?_, ?_, ?_⟩, by omega⟩
          · intro k hk
            exact rcd_up (q5 k hk) rfl rfl (pk_un (by omega)) rfl
          · intro _
            exact ⟨y1, y2⟩
          · intro _
            dsimp only
            rw [hi1]
            exact pk_us
        | false =>
          unfold lnd at hl
          simp at hl
          rw [if_neg (fun z => by have := hl z.1; omega)] at hp
          rw [if_pos (show b2 false = 0 from rfl)]
          exact Or.inr ⟨_, rfl, Or.inr ⟨i, _, _, _, _, _, by omega, ⟨1, q1⟩, hp, rfl⟩⟩
      · rw [if_neg (show ¬ nI 2 = (0 : Int32) by decide), rs_b1_some, if_pos rfl, if_pos (show (2 : Int32) ≤ nI 2 by decide), rs_b1_some]
        unfold nxt at hp
        rw [if_neg (fun z => by omega), if_neg (by omega)] at hp
        obtain ⟨y1, y2⟩ := q6 (by omega)
        have y3 := q7 (by omega)
        have hi2 : st S a + 2 = i := by omega
        cases hl : dig (S i) with
        | true =>
          unfold dig at hl
          simp at hl
          rw [if_pos hl] at hp
          rw [if_neg (show ¬ b2 true = 0 by decide)]
          simp only [↓reduceIte, if_neg (show ¬ nI 2 = (0 : Int32) by decide), if_neg (show ¬ nI 2 = (1 : Int32) by decide), if_pos (show nI 2 = (2 : Int32) from rfl), rs_b1_some, rs_b4_some, rs_lt_eq, nI_1]
          refine Or.inl ⟨_, rfl, ⟨rfl, a + 1, 0, hp, ?_, rfl, rfl, ?_, fun z => by omega, fun z => by omega⟩, by omega⟩
          · show st S a + (if isY (S (st S a)) then 1 else 3) + 0 = i + 1
            rw [y1]
            simp
            omega
          · intro k hk
            dsimp only
            by_cases hka : k = a
            · subst hka
              right
              exact ⟨y1, pk_us, y2, y3, by rw [pk_us, hi2]⟩
            · exact rcd_up (q5 k (by omega)) (pk_un hka) rfl rfl (pk_un hka)
        | false =>
          unfold dig at hl
          simp at hl
          rw [if_neg (fun z => by have := hl z.1; omega)] at hp
          rw [if_pos (show b2 false = 0 from rfl)]
          exact Or.inr ⟨_, rfl, Or.inr ⟨i, _, _, _, _, _, by omega, ⟨2, q1⟩, hp, rfl⟩⟩) N 0 (u1, u2, u3, u4, 0, 0, 0) (by omega) (by omega) ⟨rfl, 0, 0, rfl, rfl, rfl, rfl, fun k hk => by omega, fun z => by omega, fun z => by omega⟩
  rw [h1]
  rcases h2 with ⟨a, d, w1, w2, w3, w4, a1, a2, rfl, a3⟩ | ⟨i, q, w1, w2, w3, w4, a1, a2, a3, rfl⟩
  · have hd := pdu_le a1
    rw [rs_m6_inl]
    by_cases e0 : d = 0
    · subst e0
      exact ⟨-6, _, _, _, _, _, rfl, Or.inr ⟨0, a1, rfl⟩, fun _ => ⟨a, rfl, by omega, a3⟩⟩
    · rw [if_neg (nI_ne0 (by omega) (by omega))]
      exact ⟨nI c, _, _, _, _, _, rfl, Or.inr ⟨d, a1, by rw [if_neg e0]⟩, fun z => absurd z (nI_m6 (by omega))⟩
  · exact ⟨nI i, _, _, _, _, _, rfl, Or.inl ⟨i, a1, a2, a3, rfl⟩, fun z => absurd z (nI_m6 (by omega))⟩
theorem e_fault {D : Nat → Nat} (h : sd_ok D) {S : Nat → Nat} (hS : ∀ j, j < 60 → S j < 65536) {f g : Nat → Int32} (hf : ∀ j, j < 60 → f j = nI (S j)) (hg : ∀ j, j < 60 → g j = nI (S j)) {c N : Nat} (hc : c ≤ 60) (hN : 100 < N) (u1 u2 u3 u4 : Nat → Int32) :
    ∃ r q w1 w2 w3 w4, f_X10_fault N (nI (D 0)) (nI c) f = some r ∧ f_X11_fault N (nI (D 0)) (nI c) g u1 u2 u3 u4 = some (r, q, w1, w2, w3, w4) := by
  obtain ⟨r, h1, h2⟩ := s_faultX h.1 h.2.1 hS hf hc hN
  obtain ⟨r2, q, w1, w2, w3, w4, h3, h4, -⟩ := s_faultM h.1 h.2.1 hS hg hc hN u1 u2 u3 u4
  have := fok_un h4 h2
  subst this
  unfold f_X10_fault
  rw [h1]
  exact ⟨r2, q, w1, w2, w3, w4, rfl, h3⟩
