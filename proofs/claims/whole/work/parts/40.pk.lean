def isY (s : Nat) : Bool := decide (s = 46) || decide (s = 58)
def nxt (n d s : Nat) : Option Nat := if d = 0 ∧ isY s = true then some 0 else if d < 2 then (if 97 ≤ s ∧ s < 97 + n then some (d + 1) else none) else if 49 ≤ s ∧ s ≤ 57 then some 0 else none
def pdu (n : Nat) (S : Nat → Nat) : Nat → Option Nat
  | 0 => some 0
  | i + 1 => (pdu n S i).bind (fun d => nxt n d (S i))
theorem pdu_le {n : Nat} {S : Nat → Nat} : ∀ {i d : Nat}, pdu n S i = some d → d ≤ 2
  | 0, d, h => by cases h; omega
  | i + 1, d, h => by
    unfold pdu at h
    cases hp : pdu n S i with
    | none => rw [hp] at h; cases h
    | some e =>
      rw [hp] at h
      have h : nxt n e (S i) = some d := h
      unfold nxt at h
      split at h
      · cases h; omega
      · split at h
        · split at h
          · cases h; omega
          · cases h
        · split at h
          · cases h; omega
          · cases h
theorem pdu_none {n : Nat} {S : Nat → Nat} {i : Nat} (h : pdu n S i = none) : ∀ d, pdu n S (i + d) = none
  | 0 => h
  | d + 1 => by
    show (pdu n S (i + d)).bind _ = none
    rw [pdu_none h d]
    rfl
def st (S : Nat → Nat) : Nat → Nat
  | 0 => 0
  | k + 1 => st S k + (if isY (S (st S k)) then 1 else 3)
theorem st_ge (S : Nat → Nat) : ∀ k, k ≤ st S k
  | 0 => Nat.le_refl _
  | k + 1 => by
    have := st_ge S k
    unfold st
    split <;> omega
theorem st_mono (S : Nat → Nat) {a k : Nat} (h : k < a) : st S k + (if isY (S (st S k)) then 1 else 3) ≤ st S a := by
  induction a with
  | zero => omega
  | succ a ih =>
    by_cases hk : k = a
    · subst hk
      exact Nat.le_refl _
    · have h1 := ih (by omega)
      have : st S a ≤ st S (a + 1) := by
        show st S a ≤ st S a + (if isY (S (st S a)) then 1 else 3)
        omega
      omega
def isL (n s : Nat) : Prop := 97 ≤ s ∧ s < 97 + n
def gd (n : Nat) (S : Nat → Nat) (k : Nat) : Prop := isY (S (st S k)) = true ∨ (isY (S (st S k)) = false ∧ isL n (S (st S k)) ∧ isL n (S (st S k + 1)) ∧ 49 ≤ S (st S k + 2) ∧ S (st S k + 2) ≤ 57)
theorem pars {n : Nat} {S : Nat → Nat} : ∀ {i d : Nat}, pdu n S i = some d → ∃ a, st S a + d = i ∧ (∀ k, k < a → gd n S k) ∧ (1 ≤ d → isY (S (st S a)) = false ∧ isL n (S (st S a))) ∧ (2 ≤ d → isL n (S (st S a + 1)))
  | 0, d, h => by
    cases h
    exact ⟨0, rfl, fun k hk => by omega, fun h => by omega, fun h => by omega⟩
  | i + 1, d, h => by
    unfold pdu at h
    cases hp : pdu n S i with
    | none => rw [hp] at h; cases h
    | some e =>
      rw [hp] at h
      have h : nxt n e (S i) = some d := h
      have he := pdu_le hp
      obtain ⟨a, h1, h2, h3, h4⟩ := pars hp
      unfold nxt at h
      by_cases c1 : e = 0 ∧ isY (S i) = true
      · rw [if_pos c1] at h
        cases h
        have hi : st S a = i := by omega
        refine ⟨a + 1, ?_, ?_, fun h => by omega, fun h => by omega⟩
        · show st S a + (if isY (S (st S a)) then 1 else 3) + 0 = i + 1
          rw [hi, c1.2]
          rfl
        · intro k hk
          by_cases hka : k = a
          · subst hka
            left
            rw [hi]
            exact c1.2
          · exact h2 k (by omega)
      · rw [if_neg c1] at h
        by_cases c2 : e < 2
        · rw [if_pos c2] at h
          by_cases c3 : 97 ≤ S i ∧ S i < 97 + n
          · rw [if_pos c3] at h
            cases h
            refine ⟨a, by omega, h2, fun _ => ?_, fun h5 => ?_⟩
            · by_cases e0 : e = 0
              · have hi : st S a = i := by omega
                rw [hi]
                refine ⟨?_, c3⟩
                cases hy : isY (S i) with
                | false => rfl
                | true => exact absurd ⟨e0, hy⟩ c1
              · exact h3 (by omega)
            · have hi : st S a + 1 = i := by omega
              rw [hi]
              exact c3
          · rw [if_neg c3] at h
            cases h
        · rw [if_neg c2] at h
          by_cases c3 : 49 ≤ S i ∧ S i ≤ 57
          · rw [if_pos c3] at h
            cases h
            have hi : st S a + 2 = i := by omega
            obtain ⟨y1, y2⟩ := h3 (by omega)
            refine ⟨a + 1, ?_, ?_, fun h => by omega, fun h => by omega⟩
            · show st S a + (if isY (S (st S a)) then 1 else 3) + 0 = i + 1
              rw [y1]
              simp
              omega
            · intro k hk
              by_cases hka : k = a
              · subst hka
                right
                exact ⟨y1, y2, h4 (by omega), by rw [hi]; exact c3.1, by rw [hi]; exact c3.2⟩
              · exact h2 k (by omega)
          · rw [if_neg c3] at h
            cases h
-- what fault() answers
def ft (n : Nat) (S : Nat → Nat) (c : Nat) : Int32 := match fnd (fun i => (pdu n S (i + 1)).isNone) c with
  | some i => nI i
  | none => if pdu n S c = some 0 then -6 else nI c
theorem s_signAt {S : Nat → Nat} (hS : ∀ j, j < 60 → S j < 65536) {f : Nat → Int32} (hf : ∀ j, j < 60 → f j = nI (S j)) {i : Nat} (hi : i < 60) : f_X3_signAt (nI i) f = some (nI (S i)) := by
  unfold f_X3_signAt
  rw [if_neg (nI_pos (by omega)), if_neg (show ¬ (60 : Int32) ≤ nI i from nI_ge (b := 60) (by omega) (by omega)), if_neg (nI_in (by omega) (by omega)), nI_clamp (by omega), hf i hi, if_pos (nar_char (hS i hi))]
theorem s_isYears {S : Nat → Nat} (hS : ∀ j, j < 60 → S j < 65536) {f : Nat → Int32} (hf : ∀ j, j < 60 → f j = nI (S j)) {i : Nat} (hi : i < 60) : f_X3_isYears (nI i) f = some (b2 (isY (S i))) := by
  have := hS i hi
  unfold f_X3_isYears isY
  rw [s_signAt hS hf hi, rs_b1_some, rs_b1_some]
  by_cases c1 : S i = 46
  · rw [c1]; rfl
  · rw [if_neg (show ¬ nI (S i) = (46 : Int32) from fun e => c1 ((nI_eq (b := 46) (by omega) (by omega)).mp e))]
    by_cases c2 : S i = 58
    · rw [c2]; rfl
    · rw [if_neg (show ¬ nI (S i) = (58 : Int32) from fun e => c2 ((nI_eq (b := 58) (by omega) (by omega)).mp e))]
      simp [c1, c2]
      rfl
def lnd (n s : Nat) : Bool := decide (97 ≤ s) && decide (s < 97 + n)
def dig (s : Nat) : Bool := decide (49 ≤ s) && decide (s ≤ 57)
theorem tI_sub {s b : Nat} (hs : s < 65536) (hb : b < 200) : (nI s - nI b).toInt = (s : Int) - b := pk_sub_toInt (by omega) (by omega)
theorem s_landOk {n s : Nat} (hs : s < 65536) (hn : 2 ≤ n) (hn2 : n ≤ 9) : f_X10_within (nI s - 97) 0 (nI n - 1) = some (b2 (lnd n s)) := by
  have e : nI n - 1 = nI (n - 1) := pk_sub (b := 1) (by omega)
  rw [e, s_within, show (97 : Int32) = nI 97 from rfl, tI_sub hs (by omega), nI_toInt (by omega)]
  have e0 : (0 : Int32).toInt = 0 := rfl
  rw [e0]
  unfold lnd
  by_cases c1 : 97 ≤ s
  · by_cases c2 : s < 97 + n
    · have d1 : (0 : Int) ≤ (s : Int) - (97 : Nat) := by omega
      have d2 : (s : Int) - (97 : Nat) ≤ ((n - 1 : Nat) : Int) := by omega
      rw [decide_eq_true c1, decide_eq_true c2, decide_eq_true d1, decide_eq_true d2]
    · have d2 : ¬ (s : Int) - (97 : Nat) ≤ ((n - 1 : Nat) : Int) := by omega
      rw [decide_eq_false c2, decide_eq_false d2, Bool.and_false, Bool.and_false]
  · have d1 : ¬ (0 : Int) ≤ (s : Int) - (97 : Nat) := by omega
    rw [decide_eq_false c1, decide_eq_false d1, Bool.false_and, Bool.false_and]
theorem s_landOkM {n s : Nat} (hs : s < 65536) (hn : 2 ≤ n) (hn2 : n ≤ 9) : f_X11_isLand (nI s - 97) (nI n) = some (b2 (lnd n s)) := by
  rw [s_isLand _ hn hn2]
  unfold isl lnd
  rw [show (97 : Int32) = nI 97 from rfl, tI_sub hs (by omega)]
  by_cases c1 : 97 ≤ s
  · by_cases c2 : s < 97 + n
    · have d1 : (0 : Int) ≤ (s : Int) - (97 : Nat) := by omega
      have d2 : (s : Int) - (97 : Nat) < (n : Int) := by omega
      rw [decide_eq_true c1, decide_eq_true c2, decide_eq_true d1, decide_eq_true d2]
    · have d2 : ¬ (s : Int) - (97 : Nat) < (n : Int) := by omega
      rw [decide_eq_false c2, decide_eq_false d2, Bool.and_false, Bool.and_false]
  · have d1 : ¬ (0 : Int) ≤ (s : Int) - (97 : Nat) := by omega
    rw [decide_eq_false c1, decide_eq_false d1, Bool.false_and, Bool.false_and]
theorem s_digOk {s : Nat} (hs : s < 65536) : f_X10_within (nI s - 48) 1 9 = some (b2 (dig s)) := by
  rw [s_within, show (48 : Int32) = nI 48 from rfl, tI_sub hs (by omega)]
  have e0 : (1 : Int32).toInt = 1 := rfl
  have e9 : (9 : Int32).toInt = 9 := rfl
  rw [e0, e9]
  unfold dig
  by_cases c1 : 49 ≤ s
  · by_cases c2 : s ≤ 57
    · have d1 : (1 : Int) ≤ (s : Int) - (48 : Nat) := by omega
      have d2 : (s : Int) - (48 : Nat) ≤ 9 := by omega
      rw [decide_eq_true c1, decide_eq_true c2, decide_eq_true d1, decide_eq_true d2]
    · have d2 : ¬ (s : Int) - (48 : Nat) ≤ 9 := by omega
      rw [decide_eq_false c2, decide_eq_false d2, Bool.and_false, Bool.and_false]
  · have d1 : ¬ (1 : Int) ≤ (s : Int) - (48 : Nat) := by omega
    rw [decide_eq_false c1, decide_eq_false d1, Bool.false_and, Bool.false_and]
theorem s_digOkM {s : Nat} (hs : s < 65536) : f_X11_in ((nI s).toInt64) 49 57 = some (b2 (dig s)) := by
  rw [s_in, nI_toInt (by omega)]
  have e0 : (49 : Int64).toInt = 49 := rfl
  have e9 : (57 : Int64).toInt = 57 := rfl
  rw [e0, e9]
  unfold dig
  by_cases c1 : 49 ≤ s
  · by_cases c2 : s ≤ 57
    · have d1 : (49 : Int) ≤ (s : Int) := by omega
      have d2 : (s : Int) ≤ 57 := by omega
      rw [decide_eq_true c1, decide_eq_true c2, decide_eq_true d1, decide_eq_true d2]
    · have d2 : ¬ (s : Int) ≤ 57 := by omega
      rw [decide_eq_false c2, decide_eq_false d2, Bool.and_false, Bool.and_false]
  · have d1 : ¬ (49 : Int) ≤ (s : Int) := by omega
    rw [decide_eq_false c1, decide_eq_false d1, Bool.false_and, Bool.false_and]
def fok (n : Nat) (S : Nat → Nat) (c : Nat) (r : Int32) : Prop := (∃ i, i < c ∧ (∃ d, pdu n S i = some d) ∧ pdu n S (i + 1) = none ∧ r = nI i) ∨ (∃ d, pdu n S c = some d ∧ r = if d = 0 then -6 else nI c)
theorem fok_un {n : Nat} {S : Nat → Nat} {c : Nat} {r1 r2 : Int32} (h1 : fok n S c r1) (h2 : fok n S c r2) : r1 = r2 := by
  have key : ∀ i j, i < j → (∃ d, pdu n S j = some d) → pdu n S (i + 1) = none → False := by
    intro i j hij ⟨d, hd⟩ hn
    have := pdu_none hn (j - (i + 1))
    rw [show i + 1 + (j - (i + 1)) = j by omega, hd] at this
    cases this
  rcases h1 with ⟨i, a1, a2, a3, a4⟩ | ⟨d, a1, a2⟩
  · rcases h2 with ⟨j, b1, b2, b3, b4⟩ | ⟨e, b1, b2⟩
    · rcases Nat.lt_trichotomy i j with z | z | z
      · exact (key i j z b2 a3).elim
      · subst z; rw [a4, b4]
      · exact (key j i z a2 b3).elim
    · exact (key i c a1 ⟨e, b1⟩ a3).elim
  · rcases h2 with ⟨j, b1, b2, b3, b4⟩ | ⟨e, b1, b2⟩
    · exact (key j c b1 ⟨d, a1⟩ b3).elim
    · rw [a1] at b1
      cases b1
      rw [a2, b2]
theorem s_faultX {n : Nat} (hn : 2 ≤ n) (hn2 : n ≤ 9) {S : Nat → Nat} (hS : ∀ j, j < 60 → S j < 65536) {f : Nat → Int32} (hf : ∀ j, j < 60 → f j = nI (S j)) {c N : Nat} (hc : c ≤ 60) (hN : 100 < N) : ∃ r, f_X3_faultAmong N (nI n) (nI c) f = some r ∧ fok n S c r := by
  unfold f_X3_faultAmong rs_l2
  obtain ⟨r, h1, h2⟩ := rs_loop_inv (body := fun s : Int32 × Int32 => f_X3_faultAmong_L4 (nI c) f (nI n) s.1 s.2) (fun i s => s.2 = nI i ∧ ∃ d, pdu n S i = some d ∧ s.1 = nI d) (fun r => (∃ d, pdu n S c = some d ∧ r = .inl (nI d)) ∨ (∃ i, i < c ∧ (∃ d, pdu n S i = some d) ∧ pdu n S (i + 1) = none ∧ r = .inr (nI i))) c (by
    rintro i ⟨p, x⟩ hi ⟨q1, d, q2, q3⟩
    dsimp only at q1 q3 ⊢
    subst q1 q3
    have hd := pdu_le q2
    unfold f_X3_faultAmong_L4
    by_cases hci : c ≤ i
    · have : i = c := by omega
      rw [if_pos (nI_le hci (by omega))]
      subst this
      exact Or.inr ⟨_, rfl, Or.inl ⟨d, q2, rfl⟩⟩
    · rw [if_neg (nI_ge (by omega) (by omega))]
      have hs := hS i (by omega)
      have hp : pdu n S (i + 1) = nxt n d (S i) := by
        show (pdu n S i).bind _ = _
        rw [q2]
        rfl
      have eland : f_X3_landAt (nI i) f = some (nI (S i) - 97) := by
        unfold f_X3_landAt
        rw [s_signAt hS hf (by omega)]
        rfl
      have edig : f_X3_digitAt (nI i) f = some (nI (S i) - 48) := by
        unfold f_X3_digitAt
        rw [s_signAt hS hf (by omega)]
        rfl
      rw [edig, eland, rs_b1_some, rs_b1_some, s_digOk hs, s_landOk hs hn hn2, s_isYears hS hf (by omega)]
      simp only [rs_b1_some, b2_0]
      rcases (show d = 0 ∨ d = 1 ∨ d = 2 by omega) with rfl | rfl | rfl
      · rw [if_neg (show ¬ nI 0 = (2 : Int32) by decide), if_neg (show ¬ nI 0 = (1 : Int32) by decide), nI_1, nI_1]
        unfold nxt at hp
        cases hy : isY (S i) with
        | true =>
          rw [if_pos ⟨rfl, hy⟩] at hp
          exact Or.inl ⟨_, rfl, ⟨rfl, 0, hp, rfl⟩, by omega⟩
        | false =>
          rw [if_neg (fun z => by rw [hy] at z; cases z.2), if_pos (by omega)] at hp
          cases hl : lnd n (S i) with
          | true =>
            unfold lnd at hl
            simp at hl
            rw [if_pos hl] at hp
            exact Or.inl ⟨_, rfl, ⟨rfl, 1, hp, rfl⟩, by omega⟩
          | false =>
            unfold lnd at hl
            simp at hl
            rw [if_neg (fun z => by have := hl z.1; omega)] at hp
            exact Or.inr ⟨_, rfl, Or.inr ⟨i, by omega, ⟨0, q2⟩, hp, rfl⟩⟩
      · rw [if_neg (show ¬ nI 1 = (2 : Int32) by decide), if_pos (show nI 1 = (1 : Int32) from rfl), nI_1, nI_1]
        unfold nxt at hp
        rw [if_neg (fun z => by omega), if_pos (by omega)] at hp
        cases hl : lnd n (S i) with
        | true =>
          unfold lnd at hl
          simp at hl
          rw [if_pos hl] at hp
          exact Or.inl ⟨_, rfl, ⟨rfl, 2, hp, rfl⟩, by omega⟩
        | false =>
          unfold lnd at hl
          simp at hl
          rw [if_neg (fun z => by have := hl z.1; omega)] at hp
          exact Or.inr ⟨_, rfl, Or.inr ⟨i, by omega, ⟨1, q2⟩, hp, rfl⟩⟩
      · rw [if_pos (show nI 2 = (2 : Int32) from rfl), nI_1]
        unfold nxt at hp
        rw [if_neg (fun z => by omega), if_neg (by omega)] at hp
        cases hl : dig (S i) with
        | true =>
          unfold dig at hl
          simp at hl
          rw [if_pos hl] at hp
          exact Or.inl ⟨_, rfl, ⟨rfl, 0, hp, rfl⟩, by omega⟩
        | false =>
          unfold dig at hl
          simp at hl
          rw [if_neg (fun z => by have := hl z.1; omega)] at hp
          exact Or.inr ⟨_, rfl, Or.inr ⟨i, by omega, ⟨2, q2⟩, hp, rfl⟩⟩) N 0 (0, 0) (by omega) (by omega) ⟨rfl, 0, rfl, rfl⟩
  rw [h1]
  rcases h2 with ⟨d, a1, rfl⟩ | ⟨i, a1, a2, a3, rfl⟩
  · have hd := pdu_le a1
    rw [rs_m1_inl]
    refine ⟨if d = 0 then -6 else nI c, ?_, Or.inr ⟨d, a1, rfl⟩⟩
    by_cases e0 : d = 0
    · subst e0; rfl
    · rw [if_neg (nI_ne0 (by omega) (by omega)), if_neg e0]
  · exact ⟨_, rfl, Or.inl ⟨i, a1, a2, a3, rfl⟩⟩
