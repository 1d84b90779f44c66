def stp (c : Nat → Nat) (T : Nat) : Prop := T ≤ 99 ∧ (∀ j, j + 1 < T → c j = 0) ∧ (T = 99 ∨ 0 < sm c T)
theorem sm_zero {c : Nat → Nat} : ∀ T, (∀ j, j < T → c j = 0) → sm c T = 0
  | 0, _ => rfl
  | T + 1, h => by
    show sm c T + c T = 0
    rw [sm_zero T (fun j hj => h j (by omega)), h T (by omega)]
theorem stp_lt {c : Nat → Nat} {T U : Nat} (h1 : stp c T) (h2 : stp c U) : ¬ T < U := by
  intro hlt
  obtain ⟨a1, a2, a3⟩ := h1
  obtain ⟨b1, b2, b3⟩ := h2
  have : sm c T = 0 := sm_zero T (fun j hj => b2 j (by omega))
  omega
theorem stp_un {c : Nat → Nat} {T U : Nat} (h1 : stp c T) (h2 : stp c U) : T = U := by
  have := stp_lt h1 h2
  have := stp_lt h2 h1
  omega
theorem s_until {D : Nat → Nat} (h : sd_ok D) {V : Nat → Nat → Nat} (hV : vok V) {y N : Nat} (hy : y + 99 < 2 ^ 23) (hN : 200 < N) {f g : Nat → Int32} (hX : XS V f) (hg0 : ∀ k, k < 9 → g k = nI 0) :
    ∃ T f2 g2, stp (fun i => cn D (Vn D V y i) (y + i)) T ∧ f_X7_passUntilHungry N 99 (nI y) 0 0 (nI (D 0)) (nI (D 1)) (nI (D 2)) (nI (D 3)) (nI (D 4)) (nI (D 5)) (nI (D 6)) f g = some (nI (y + T), nI T, nI (cs D V y T), f2, g2) ∧ XS (Vn D V y T) f2 ∧ ∀ k, k < 9 → g2 k = nI (hn D V y T k) := by
  have hb := h.2.1
  unfold f_X7_passUntilHungry rs_l6
  have hcs : ∀ i, cs D V y i ≤ i * 9 := by
    intro i
    induction i with
    | zero => exact Nat.le_refl _
    | succ i ih =>
      have e : cs D V y (i + 1) = cs D V y i + cn D (Vn D V y i) (y + i) := rfl
      have h9 : ∀ n, sm (hg D (Vn D V y i) (y + i)) n ≤ n := by
        intro n
        induction n with
        | zero => exact Nat.le_refl _
        | succ n ih2 =>
          show sm _ n + hg _ _ _ n ≤ n + 1
          have : hg D (Vn D V y i) (y + i) n ≤ 1 := by unfold hg; split <;> omega
          omega
      have : cn D (Vn D V y i) (y + i) ≤ D 0 := h9 (D 0)
      omega
  obtain ⟨r, h1, h2⟩ := rs_loop_inv (body := fun s : (Nat → Int32) × (Nat → Int32) × Int32 × Int32 × Int32 × Int32 => f_X7_passUntilHungry_L2 N 99 (nI (D 0)) (nI (D 1)) (nI (D 2)) (nI (D 3)) (nI (D 4)) (nI (D 5)) (nI (D 6)) s.1 s.2.1 s.2.2.1 s.2.2.2.1 s.2.2.2.2.1 s.2.2.2.2.2) (fun i s => (∀ j, j + 1 < i → cn D (Vn D V y j) (y + j) = 0) ∧ XS (Vn D V y i) s.1 ∧ (∀ k, k < 9 → s.2.1 k = nI (hn D V y i k)) ∧ s.2.2.1 = nI (y + i) ∧ s.2.2.2.1 = nI i ∧ s.2.2.2.2.1 = nI (cs D V y i) ∧ s.2.2.2.2.2 = nI i) (fun r => ∃ T, stp (fun i => cn D (Vn D V y i) (y + i)) T ∧ XS (Vn D V y T) r.1 ∧ (∀ k, k < 9 → r.2.1 k = nI (hn D V y T k)) ∧ r.2.2.1 = nI (y + T) ∧ r.2.2.2.1 = nI T ∧ r.2.2.2.2 = nI (cs D V y T)) 99 (by
    rintro i ⟨a, b, c1, c2, c3, c4⟩ hi ⟨q0, q1, q2, q3, q4, q5, q6⟩
    dsimp only at q0 q1 q2 q3 q4 q5 q6 ⊢
    subst q3 q4 q5 q6
    have hc9 := hcs i
    unfold f_X7_passUntilHungry_L2
    by_cases hc : 99 ≤ i
    · have : i = 99 := by omega
      rw [if_pos (show (99 : Int32) ≤ nI i from nI_le (a := 99) hc (by omega))]
      subst this
      exact Or.inr ⟨_, rfl, 99, ⟨Nat.le_refl _, q0, Or.inl rfl⟩, q1, q2, rfl, rfl, rfl⟩
    · rw [if_neg (show ¬ (99 : Int32) ≤ nI i from nI_ge (b := 99) (by omega) (by omega))]
      by_cases c0 : cs D V y i = 0
      · obtain ⟨f2, g2, e1, e2, e3⟩ := s_pyX h (Vn_ok hV y i) (y := y + i) (N := N) (by omega) (by omega) q1 q2 i (cs D V y i)
        rw [if_pos (show nI (cs D V y i) = 0 by rw [c0]; rfl), e1, rs_b5_some, nI_1]
        refine Or.inl ⟨_, rfl, ⟨?_, e2, ?_, rfl, rfl, rfl, rfl⟩, by omega⟩
        · intro j hj
          have key : ∀ m, sm (fun i => cn D (Vn D V y i) (y + i)) m = 0 → ∀ j, j < m → cn D (Vn D V y j) (y + j) = 0 := by
            intro m
            induction m with
            | zero => intro _ j hj; omega
            | succ m ih =>
              intro hm j hj
              have hm2 : sm (fun i => cn D (Vn D V y i) (y + i)) m + cn D (Vn D V y m) (y + m) = 0 := hm
              by_cases hjm : j = m
              · subst hjm; omega
              · exact ih (by omega) j (by omega)
          exact key i c0 j (by omega)
        · intro k hk
          dsimp only
          rw [e3 k hk]
          rfl
      · rw [if_neg (nI_ne0 (by omega) (by omega))]
        exact Or.inr ⟨_, rfl, i, ⟨hi, q0, Or.inr (by show 0 < cs D V y i; omega)⟩, q1, q2, rfl, rfl, rfl⟩) N 0 (f, g, nI y, 0, 0, 0) (by omega) (by omega) ⟨fun j hj => by omega, hX, fun k hk => by dsimp only; rw [hg0 k hk]; rfl, rfl, rfl, rfl, rfl⟩
  obtain ⟨r1, r2, r3, r4, r5⟩ := r
  obtain ⟨T, w0, w1, w2, w3, w4, w5⟩ := h2
  dsimp only at w1 w2 w3 w4 w5
  rw [h1, rs_b5_some, w3, w4, w5]
  exact ⟨T, r1, r2, w0, rfl, w1, w2⟩
def fo (c : Nat → Nat) (i : Nat) : Int32 := if i = 0 then -6 else if 0 < c (i - 1) then nI i else -6
theorem s_untilM {D : Nat → Nat} (h : sd_ok D) {V : Nat → Nat → Nat} (hV : vok V) {y N : Nat} (hy : y + 99 < 2 ^ 23) (hN : 200 < N) {f g : Nat → Int32} (hX : MS V f) (hg0 : ∀ k, k < 9 → g k = nI 0) :
    ∃ T f2 g2, stp (fun i => cn D (Vn D V y i) (y + i)) T ∧ rs_l6 (f_X11_hungry_L26 N (nI (D 0)) (nI (D 1)) (nI (D 2)) (nI (D 3)) (nI (D 4)) (nI (D 5)) (nI (D 6))) N f g 0 (nI y) (-6) 1 = some (f2, g2, nI (cs D V y T), nI (y + T), fo (fun i => cn D (Vn D V y i) (y + i)) T) ∧ MS (Vn D V y T) f2 ∧ ∀ k, k < 9 → g2 k = nI (hn D V y T k) := by
  unfold rs_l6
  obtain ⟨r, h1, h2⟩ := rs_loop_inv (body := fun s : (Nat → Int32) × (Nat → Int32) × Int32 × Int32 × Int32 × Int32 => f_X11_hungry_L26 N (nI (D 0)) (nI (D 1)) (nI (D 2)) (nI (D 3)) (nI (D 4)) (nI (D 5)) (nI (D 6)) s.1 s.2.1 s.2.2.1 s.2.2.2.1 s.2.2.2.2.1 s.2.2.2.2.2) (fun i s => (∀ j, j + 1 < i → cn D (Vn D V y j) (y + j) = 0) ∧ MS (Vn D V y i) s.1 ∧ (∀ k, k < 9 → s.2.1 k = nI (hn D V y i k)) ∧ s.2.2.1 = nI (cs D V y i) ∧ s.2.2.2.1 = nI (y + i) ∧ s.2.2.2.2.1 = fo (fun i => cn D (Vn D V y i) (y + i)) i ∧ s.2.2.2.2.2 = nI (i + 1)) (fun r => ∃ T, stp (fun i => cn D (Vn D V y i) (y + i)) T ∧ MS (Vn D V y T) r.1 ∧ (∀ k, k < 9 → r.2.1 k = nI (hn D V y T k)) ∧ r.2.2.1 = nI (cs D V y T) ∧ r.2.2.2.1 = nI (y + T) ∧ r.2.2.2.2 = fo (fun i => cn D (Vn D V y i) (y + i)) T) 99 (by
    rintro i ⟨a, b, c1, c2, c3, c4⟩ hi ⟨q0, q1, q2, q3, q4, q5, q6⟩
    dsimp only at q0 q1 q2 q3 q4 q5 q6 ⊢
    subst q3 q4 q5 q6
    unfold f_X11_hungry_L26
    by_cases hc : 99 ≤ i
    · have : i = 99 := by omega
      rw [if_pos (show (99 : Int32) < nI (i + 1) from nI_lt (a := 99) (by omega) (by omega))]
      subst this
      exact Or.inr ⟨_, rfl, 99, ⟨Nat.le_refl _, q0, Or.inl rfl⟩, q1, q2, rfl, rfl, rfl⟩
    · rw [if_neg (show ¬ (99 : Int32) < nI (i + 1) from nI_nlt (b := i + 1) (a := 99) (by omega) (by omega))]
      by_cases c0 : i ≠ 0 ∧ 0 < cn D (Vn D V y (i - 1)) (y + (i - 1))
      · have ef : fo (fun i => cn D (Vn D V y i) (y + i)) i = nI i := by
          unfold fo
          rw [if_neg c0.1]
          exact if_pos c0.2
        rw [ef, if_pos (nI_pos' (by omega))]
        refine Or.inr ⟨_, rfl, i, ⟨hi, q0, Or.inr ?_⟩, q1, q2, rfl, rfl, ef.symm⟩
        obtain ⟨j, rfl⟩ : ∃ j, i = j + 1 := ⟨i - 1, by omega⟩
        show 0 < sm _ j + cn D (Vn D V y j) (y + j)
        have := c0.2
        simp only [Nat.add_sub_cancel] at this
        omega
      · have ef : fo (fun i => cn D (Vn D V y i) (y + i)) i = -6 := by
          unfold fo
          by_cases ci : i = 0
          · rw [if_pos ci]
          · rw [if_neg ci]
            exact if_neg (fun z => c0 ⟨ci, z⟩)
        obtain ⟨f2, g2, e1, e2, e3⟩ := s_pyM h (Vn_ok hV y i) (y := y + i) (N := N) (by omega) (by omega) q1 q2 (cs D V y i)
        rw [ef, if_neg (show ¬ (0 : Int32) ≤ -6 by decide), e1, rs_b5_some, nI_1]
        have efo : (if b2 (an D (Vn D V y i) (y + i)) = 0 then some (-6 : Int32) else some (nI (i + 1))) = some (fo (fun i => cn D (Vn D V y i) (y + i)) (i + 1)) := by
          have efo2 : fo (fun i => cn D (Vn D V y i) (y + i)) (i + 1) = if 0 < cn D (Vn D V y i) (y + i) then nI (i + 1) else -6 := by
            unfold fo
            rw [if_neg (show ¬ i + 1 = 0 by omega)]
            simp only [Nat.add_sub_cancel]
          rw [efo2]
          unfold an
          by_cases c : 0 < cn D (Vn D V y i) (y + i)
          · rw [decide_eq_true c, if_pos c]
            rfl
          · rw [decide_eq_false c, if_neg c]
            rfl
        rw [efo, rs_b1_some]
        refine Or.inl ⟨_, rfl, ⟨?_, e2, ?_, rfl, rfl, rfl, rfl⟩, by omega⟩
        · intro j hj
          by_cases hji : j + 1 = i
          · subst hji
            have : ¬ 0 < cn D (Vn D V y (j + 1 - 1)) (y + (j + 1 - 1)) := fun z => c0 ⟨by omega, z⟩
            simp only [Nat.add_sub_cancel] at this
            omega
          · exact q0 j (by omega)
        · intro k hk
          dsimp only
          rw [e3 k hk]
          rfl) N 0 (f, g, 0, nI y, -6, 1) (by omega) (by omega) ⟨fun j hj => by omega, hX, fun k hk => by dsimp only; rw [hg0 k hk]; rfl, rfl, rfl, rfl, rfl⟩
  obtain ⟨r1, r2, r3, r4, r5⟩ := r
  obtain ⟨T, w0, w1, w2, w3, w4, w5⟩ := h2
  dsimp only at w1 w2 w3 w4 w5
  rw [h1, w3, w4, w5]
  exact ⟨T, r1, r2, w0, rfl, w1, w2⟩
theorem fnd_iff {f : Nat → Bool} {m i : Nat} (h1 : i < m) (h2 : f i = true) (h3 : ∀ j, j < i → f j = false) : fnd f m = some i := by
  have e : fnd f (i + 1) = some i := by
    unfold fnd
    rw [fnd_of h3, h2]
    rfl
  have := fnd_mono e (m - (i + 1))
  rw [show i + 1 + (m - (i + 1)) = m by omega] at this
  exact this
theorem s_least {g : Nat → Int32} {u : Nat → Nat} (hg : ∀ k, k < 9 → g k = nI (u k)) (hu : ∀ k, k < 9 → u k < 2 ^ 31) {N : Nat} (hN : 20 < N) : f_X7_leastHungry N g = some (fres 0 (fnd (fun k => decide (0 < u k)) 9)) := by
  unfold f_X7_leastHungry
  refine lp_find (s := 0) (t := 0) (m := 9) (by omega) ?_ ?_
  · intro i hi
    unfold f_X7_leastHungry_L2
    rw [Nat.zero_add, if_neg (show ¬ (9 : Int32) ≤ nI i from nI_ge (b := 9) (by omega) (by omega)), if_neg (nI_in (by omega) (by omega)), nI_clamp (by omega), hg i hi, nI_1]
    have := hu i hi
    by_cases c : 0 < u i
    · rw [if_neg (nI_nle c this), decide_eq_true c]
      rfl
    · have : u i = 0 := by omega
      rw [this]
      rfl
  · unfold f_X7_leastHungry_L2
    rw [Nat.zero_add, if_pos (show (9 : Int32) ≤ nI 9 from nI_le (a := 9) (Nat.le_refl _) (by omega))]
def dn (n c : Nat) : Int32 := if c < n then nI (n - 1 - c) else -1
theorem s_whoM {g : Nat → Int32} {u : Nat → Nat} {n : Nat} (hn : n ≤ 9) (hg : ∀ k, k < 9 → g k = nI (u k)) (hu : ∀ k, k < 9 → u k < 2 ^ 31) {N : Nat} (hN : 20 < N) : rs_l2 (f_X11_hungry_L66 g) N (-6) (dn n 0) = some (fres 0 (fnd (fun k => decide (0 < u k)) n)) := by
  unfold rs_l2
  obtain ⟨r, h1, h2⟩ := rs_loop_inv (body := fun s : Int32 × Int32 => f_X11_hungry_L66 g s.1 s.2) (fun c s => s.2 = dn n c ∧ ((s.1 = -6 ∧ ∀ k, n - c ≤ k → k < n → u k = 0) ∨ ∃ k0, s.1 = nI k0 ∧ n - c ≤ k0 ∧ k0 < n ∧ 0 < u k0 ∧ ∀ k, n - c ≤ k → k < k0 → u k = 0)) (fun r => r = fres 0 (fnd (fun k => decide (0 < u k)) n)) n (by
    rintro c ⟨w, x⟩ hc ⟨q1, q2⟩
    dsimp only at q1 q2 ⊢
    subst q1
    unfold f_X11_hungry_L66
    by_cases hcn : n ≤ c
    · have : c = n := by omega
      subst this
      have e : dn c c = -1 := by unfold dn; rw [if_neg (by omega)]
      rw [e, if_pos (by decide)]
      refine Or.inr ⟨w, rfl, ?_⟩
      rcases q2 with ⟨a, b⟩ | ⟨k0, a, b, b2, b3, b4⟩
      · rw [fnd_of (fun i hi => by simp; exact b i (by omega) hi), a]
        rfl
      · rw [fnd_iff b2 (by simp; exact b3) (fun j hj => by simp; exact b4 j (by omega) hj), a]
        show nI k0 = nI (0 + k0)
        rw [Nat.zero_add]
    · have e : dn n c = nI (n - 1 - c) := by unfold dn; rw [if_pos (by omega)]
      have e2 : nI (n - 1 - c) + (-1) = dn n (c + 1) := by
        unfold dn
        by_cases c1 : c + 1 < n
        · rw [if_pos c1, show n - 1 - c = (n - 1 - (c + 1)) + 1 by omega, pk_m1]
        · rw [if_neg c1, show n - 1 - c = 0 by omega]
          rfl
      rw [e, if_neg (nI_pos (by omega)), if_neg (nI_in (N := 9) (by omega) (by omega)), nI_clamp (by omega), hg _ (by omega), e2]
      have hub := hu (n - 1 - c) (by omega)
      by_cases cp : 0 < u (n - 1 - c)
      · rw [if_neg (nI_nle cp hub), rs_b1_some]
        refine Or.inl ⟨_, rfl, ⟨rfl, Or.inr ⟨n - 1 - c, rfl, by omega, by omega, cp, fun k h1 h2 => by omega⟩⟩, by omega⟩
      · have hz : u (n - 1 - c) = 0 := by omega
        rw [hz, if_pos (show nI 0 ≤ 0 by decide), rs_b1_some]
        refine Or.inl ⟨_, rfl, ⟨rfl, ?_⟩, by omega⟩
        rcases q2 with ⟨a, b⟩ | ⟨k0, a, b, b2, b3, b4⟩
        · refine Or.inl ⟨a, fun k h1 h2 => ?_⟩
          by_cases hk : k = n - 1 - c
          · rw [hk]; exact hz
          · exact b k (by omega) h2
        · refine Or.inr ⟨k0, a, by omega, b2, b3, fun k h1 h2 => ?_⟩
          by_cases hk : k = n - 1 - c
          · rw [hk]; exact hz
          · exact b4 k (by omega) h2) N 0 (-6, dn n 0) (by omega) (by omega) ⟨rfl, Or.inl ⟨rfl, fun k h1 h2 => by omega⟩⟩
  rw [h1, h2]
theorem hn_b {D : Nat → Nat} {V : Nat → Nat → Nat} (y k : Nat) : ∀ T, hn D V y T k ≤ T
  | 0 => Nat.le_refl _
  | T + 1 => by
    show hn D V y T k + (if k < D 0 then hg D (Vn D V y T) (y + T) k else 0) ≤ T + 1
    have h1 := hn_b (D := D) (V := V) y k T
    have h2 : hg D (Vn D V y T) (y + T) k ≤ 1 := by unfold hg; split <;> omega
    split <;> omega
theorem hn_0 {D : Nat → Nat} {V : Nat → Nat → Nat} (y : Nat) {k : Nat} (hk : ¬ k < D 0) : ∀ T, hn D V y T k = 0
  | 0 => rfl
  | T + 1 => by
    show hn D V y T k + (if k < D 0 then hg D (Vn D V y T) (y + T) k else 0) = 0
    rw [hn_0 y hk T, if_neg hk]
theorem sm_le_of {c : Nat → Nat} : ∀ {n k : Nat}, k < n → c k ≤ sm c n
  | n + 1, k, h => by
    show c k ≤ sm c n + c n
    by_cases hk : k = n
    · subst hk; omega
    · have := sm_le_of (c := c) (n := n) (k := k) (by omega)
      omega
theorem hn_cs {D : Nat → Nat} {V : Nat → Nat → Nat} (y : Nat) {k : Nat} (T : Nat) (h : cs D V y T = 0) : hn D V y T k = 0 := by
  by_cases hk : k < D 0
  · induction T with
    | zero => rfl
    | succ T ih =>
      have e : cs D V y T + cn D (Vn D V y T) (y + T) = 0 := h
      show hn D V y T k + (if k < D 0 then hg D (Vn D V y T) (y + T) k else 0) = 0
      have h2 : hg D (Vn D V y T) (y + T) k ≤ cn D (Vn D V y T) (y + T) := sm_le_of hk
      rw [ih (by omega), if_pos hk]
      omega
  · exact hn_0 y hk T
theorem cs_le {D : Nat → Nat} (hb : D 0 ≤ 9) (V : Nat → Nat → Nat) (y : Nat) : ∀ i, cs D V y i ≤ i * 9 := by
  intro i
  induction i with
  | zero => exact Nat.le_refl _
  | succ i ih =>
    have e : cs D V y (i + 1) = cs D V y i + cn D (Vn D V y i) (y + i) := rfl
    have h9 : ∀ n, sm (hg D (Vn D V y i) (y + i)) n ≤ n := by
      intro n
      induction n with
      | zero => exact Nat.le_refl _
      | succ n ih2 =>
        show sm _ n + hg _ _ _ n ≤ n + 1
        have : hg D (Vn D V y i) (y + i) n ≤ 1 := by unfold hg; split <;> omega
        omega
    have : cn D (Vn D V y i) (y + i) ≤ D 0 := h9 (D 0)
    omega
theorem rs_b16_some {a1 a2 a3 a4 a5 a6 a7 a8 a9 a10 a11 a12 a13 a14 a15 a16 ζ : Type} (x1 : a1) (x2 : a2) (x3 : a3) (x4 : a4) (x5 : a5) (x6 : a6) (x7 : a7) (x8 : a8) (x9 : a9) (x10 : a10) (x11 : a11) (x12 : a12) (x13 : a13) (x14 : a14) (x15 : a15) (x16 : a16) (k : a1 → a2 → a3 → a4 → a5 → a6 → a7 → a8 → a9 → a10 → a11 → a12 → a13 → a14 → a15 → a16 → Option ζ) : rs_b16 (some (x1, x2, x3, x4, x5, x6, x7, x8, x9, x10, x11, x12, x13, x14, x15, x16)) k = k x1 x2 x3 x4 x5 x6 x7 x8 x9 x10 x11 x12 x13 x14 x15 x16 := rfl
theorem e_hungry {D : Nat → Nat} (h : sd_ok D) {V : Nat → Nat → Nat} (hV : vok V) {f g : Nat → Int32} (hX : XS V f) (hM : MS V g) {N : Nat} (hN : 200 < N) {y : Nat} (hy : y < 2 ^ 22) (p1 : Int32)
    (t1 t2 t3 t4 t5 t6 t7 t8 t9 t10 t11 t12 t13 t14 : Int32) (a1 a2 : Nat → Int32) (m1 m2 : Int32) (b1 b2 : Nat → Int32) :
    ∃ (r : Int32) (o1 o2 o3 o4 o5 o6 o7 o8 o9 o10 o11 o12 o13 o14 : Int32) (c1 c2 : Nat → Int32) (n1 n2 : Int32) (g2 d1 d2 : Nat → Int32),
      f_X10_hungry N p1 t1 t2 t3 t4 t5 t6 t7 (nI y) t8 t9 t10 t11 t12 t13 t14 (nI (D 0)) (nI (D 1)) (nI (D 2)) (nI (D 3)) (nI (D 4)) (nI (D 5)) (nI (D 6)) f a1 a2 = some (r, o1, o2, o3, o4, o5, o6, o7, o8, o9, o10, o11, o12, o13, o14, c1, c2) ∧ f_X11_hungry N p1 (nI (D 0)) (nI (D 1)) (nI (D 2)) (nI (D 3)) (nI (D 4)) (nI (D 5)) (nI (D 6)) (nI y) m1 m2 g b1 b2 = some (r, nI y, n1, n2, g2, d1, d2) ∧ MS V g2 := by
  have hb := h.2.1
  have hb0 := h.1
  unfold f_X10_hungry f_X11_hungry
  simp only [s_within, s_in, rs_b1_some, b2_0]
  cases h1 : ins p1 0 1 with
  | false =>
    have e1 : (decide ((0 : Int32).toInt ≤ p1.toInt) && decide (p1.toInt ≤ (1 : Int32).toInt)) = false := h1
    have e2 : (decide ((0 : Int64).toInt ≤ p1.toInt) && decide (p1.toInt ≤ (1 : Int64).toInt)) = false := h1
    rw [e1, e2]
    exact ⟨-2, t1, t2, t3, t4, t5, t6, t7, t8, t9, t10, t11, t12, t13, t14, a1, a2, m1, m2, g, b1, b2, rfl, rfl, hM⟩
  | true =>
    have e1 : (decide ((0 : Int32).toInt ≤ p1.toInt) && decide (p1.toInt ≤ (1 : Int32).toInt)) = true := h1
    have e2 : (decide ((0 : Int64).toInt ≤ p1.toInt) && decide (p1.toInt ≤ (1 : Int64).toInt)) = true := h1
    rw [e1, e2]
    simp only [itf]
    obtain ⟨f2, g2, w1, w2, w3⟩ := s_beginS (D := D) hX a1 a2 (N := N) (by omega) (nI y)
    obtain ⟨b3, b4, w4, w5, w6⟩ := s_keepNow hM (nI y) b1 b2 (N := N) (by omega)
    obtain ⟨T, f3, g3, u1, u2, u3, u4⟩ := s_until h hV (y := y) (N := N) (by omega) (by omega) w2 w3
    obtain ⟨T2, f4, g4, v1, v2, v3, v4⟩ := s_untilM h hV (y := y) (N := N) (by omega) (by omega) hM w6
    have hT := stp_un v1 u1
    subst hT
    obtain ⟨f5, w13, w14⟩ := s_putBack (Vn_sx D V y T2) v3 w5 (nI y) (N := N) (by omega)
    have hub : ∀ k, k < 9 → hn D V y T2 k < 2 ^ 31 := fun k _ => by
      have := hn_b (D := D) (V := V) y k T2
      have := v1.1
      omega
    have hd0 : nI (D 0) - 1 = dn (D 0) 0 := by
      unfold dn
      rw [if_pos (by omega), show (1 : Int32) = nI 1 from rfl, pk_sub (by omega), Nat.sub_zero]
    have hfe : fnd (fun k => decide (0 < hn D V y T2 k)) 9 = fnd (fun k => decide (0 < hn D V y T2 k)) (D 0) := by
      cases hf : fnd (fun k => decide (0 < hn D V y T2 k)) (D 0) with
      | some i =>
        have := fnd_mono hf (9 - D 0)
        rw [show D 0 + (9 - D 0) = 9 by omega] at this
        exact this
      | none =>
        apply fnd_of
        intro i hi
        by_cases hin : i < D 0
        · exact fnd_none hf i hin
        · simp
          exact hn_0 y hin T2
    rw [w1, w4, rs_b16_some, rs_b4_some, u2, v2, rs_b5_some, rs_b5_some, rs_lt_eq, hd0, s_whoM hb v4 hub (by omega), rs_b1_some, w13, rs_b2_some, s_least u4 hub (by omega), rs_b1_some, hfe]
    have hc9 := cs_le hb V y T2
    have hT99 := v1.1
    by_cases c0 : cs D V y T2 = 0
    · rw [if_pos (show nI (cs D V y T2) = 0 by rw [c0]; rfl)]
      have ef : fo (fun i => cn D (Vn D V y i) (y + i)) T2 = -6 := by
        unfold fo
        by_cases ct : T2 = 0
        · rw [if_pos ct]
        · rw [if_neg ct]
          apply if_neg
          intro z
          have : cn D (Vn D V y (T2 - 1)) (y + (T2 - 1)) ≤ sm (fun i => cn D (Vn D V y i) (y + i)) T2 := sm_le_of (c := fun i => cn D (Vn D V y i) (y + i)) (k := T2 - 1) (by omega)
          have e0 : sm (fun i => cn D (Vn D V y i) (y + i)) T2 = 0 := c0
          have z2 : 0 < cn D (Vn D V y (T2 - 1)) (y + (T2 - 1)) := z
          omega
      have ew : fnd (fun k => decide (0 < hn D V y T2 k)) (D 0) = none := fnd_of (fun i _ => by simp; exact hn_cs y T2 c0)
      rw [ef, ew]
      by_cases cp : p1 = 0
      · rw [if_pos cp]
        exact ⟨_, _, _, _, _, _, _, _, _, _, _, _, _, _, _, _, _, _, _, _, _, _, rfl, rfl, w14⟩
      · rw [if_neg cp]
        exact ⟨_, _, _, _, _, _, _, _, _, _, _, _, _, _, _, _, _, _, _, _, _, _, rfl, rfl, w14⟩
    · rw [if_neg (nI_ne0 (by omega) (by omega))]
      have ef : fo (fun i => cn D (Vn D V y i) (y + i)) T2 = nI T2 := by
        unfold fo
        have hT0 : T2 ≠ 0 := fun z => c0 (by rw [z]; rfl)
        rw [if_neg hT0]
        apply if_pos
        rcases Nat.eq_zero_or_pos (cn D (Vn D V y (T2 - 1)) (y + (T2 - 1))) with z | z
        · exact absurd (sm_zero T2 (fun j hj => by
            by_cases hj1 : j + 1 < T2
            · exact v1.2.1 j hj1
            · rw [show j = T2 - 1 by omega]; exact z)) c0
        · exact z
      rw [ef]
      by_cases cp : p1 = 0
      · rw [if_pos cp, if_pos cp]
        exact ⟨_, _, _, _, _, _, _, _, _, _, _, _, _, _, _, _, _, _, _, _, _, _, rfl, rfl, w14⟩
      · rw [if_neg cp, if_neg cp]
        exact ⟨_, _, _, _, _, _, _, _, _, _, _, _, _, _, _, _, _, _, _, _, _, _, rfl, rfl, w14⟩
