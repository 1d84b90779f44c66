-- needs
def qq (D : Nat → Nat) (V : Nat → Nat → Nat) (y k i : Nat) : Nat := if sd_dark D k (y + i) then 0 else V 0 k
def nd (q : Nat → Nat) (e m : Nat) : Nat → Nat
  | 0 => 0
  | s + 1 => nd q e m s + e - q (m - 1 - s)
def okk (q : Nat → Nat) (e c m : Nat) : Nat → Nat → Prop
  | 0, _ => True
  | s + 1, x => e ≤ x + q (m - 1 - s) ∧ okk q e c m s (if x + q (m - 1 - s) - e ≤ c then x + q (m - 1 - s) - e else c)
theorem okk_iff (q : Nat → Nat) (e c m : Nat) : ∀ s x, x ≤ c → (okk q e c m s x ↔ (∀ t, t < s → nd q e m t ≤ c) ∧ nd q e m s ≤ x)
  | 0, x, hx => by
    constructor
    · intro _
      exact ⟨fun t ht => by omega, Nat.zero_le _⟩
    · intro _
      trivial
  | s + 1, x, hx => by
    have e1 : nd q e m (s + 1) = nd q e m s + e - q (m - 1 - s) := rfl
    show (e ≤ x + q (m - 1 - s) ∧ okk q e c m s (if x + q (m - 1 - s) - e ≤ c then x + q (m - 1 - s) - e else c)) ↔ _
    rw [okk_iff q e c m s _ (by split <;> omega), e1]
    constructor
    · rintro ⟨h1, h2, h3⟩
      refine ⟨fun t ht => ?_, ?_⟩
      · by_cases c : t = s
        · subst c
          split at h3 <;> omega
        · exact h2 t (by omega)
      · split at h3 <;> omega
    · rintro ⟨h1, h2⟩
      have h3 := h1 s (by omega)
      refine ⟨by omega, fun t ht => h1 t (by omega), ?_⟩
      split <;> omega
def nok (q : Nat → Nat) (e c m : Nat) : Prop := ∀ t, t ≤ m → nd q e m t ≤ c
noncomputable def nr (q : Nat → Nat) (e c m : Nat) : Int32 := @ite _ (nok q e c m) (Classical.propDecidable _) (nI (nd q e m m)) (-6)
theorem nr_pos {q : Nat → Nat} {e c m : Nat} (h : nok q e c m) : nr q e c m = nI (nd q e m m) := if_pos h
theorem nr_neg {q : Nat → Nat} {e c m : Nat} (h : ¬ nok q e c m) : nr q e c m = -6 := if_neg h
theorem nd_succ (q : Nat → Nat) (e m s : Nat) : nd q e m (s + 1) = nd q e m s + e - q (m - 1 - s) := rfl
theorem s_needX {D : Nat → Nat} (h : sd_ok D) {V : Nat → Nat → Nat} (hV : vok V) {f : Nat → Int32} (hX : XS V f) {N : Nat} (hN : 200 < N) {y k m : Nat} (hy : y < 2 ^ 22) (hk : k < 9) (hm : m ≤ 100) :
    f_X9_needOf N (nI k) (nI m) (nI y) f (nI (D 0)) (nI (D 1)) (nI (D 2)) (nI (D 3)) (nI (D 4)) (nI (D 5)) (nI (D 6)) = some (nr (qq D V y k) (V 1 k) (V 3 k) m) := by
  obtain ⟨v1, v2, v3, v4⟩ := hV k hk
  unfold f_X9_needOf
  rw [s_of3 hX hk, rs_b1_some, rs_lt_eq]
  unfold rs_l2
  obtain ⟨r, h1, h2⟩ := rs_loop_inv (body := fun s : Int32 × Int32 => f_X9_needOf_L18 (nI k) (nI y) (nI (D 0)) (nI (D 1)) (nI (D 2)) (nI (D 3)) (nI (D 4)) (nI (D 5)) (nI (D 6)) f (nI (V 3 k)) s.1 s.2) (fun i s => s.2 = nI m - 1 - nI i ∧ s.1 = nI (nd (qq D V y k) (V 1 k) m i) ∧ (∀ t, t ≤ i → nd (qq D V y k) (V 1 k) m t ≤ V 3 k)) (fun r => rs_m1 (some r) (fun (x29 : Int32) => some x29) = some (nr (qq D V y k) (V 1 k) (V 3 k) m)) m (by
    rintro i ⟨a, b⟩ hi ⟨q1, q2, q3⟩
    dsimp only at q1 q2 q3 ⊢
    subst q1 q2
    unfold f_X9_needOf_L18
    by_cases hc : m ≤ i
    · have : i = m := by omega
      subst this
      have e1 : nI i - 1 - nI i = (-1 : Int32) := by grind
      rw [e1, if_pos (by decide)]
      exact Or.inr ⟨_, rfl, by rw [nr_pos q3]; rfl⟩
    · have e1 : nI m - 1 - nI i = nI (m - 1 - i) := by
        rw [show nI m - 1 = nI (m - 1) from pk_sub (b := 1) (by omega), pk_sub (by omega)]
      have hb : (if b2 (sd_dark D k (y + (m - 1 - i))) = 0 then rs_b1 (some (nI (V 0 k))) (fun (x39 : Int32) => some x39) else some 0) = some (nI (qq D V y k (m - 1 - i))) := by
        unfold qq
        cases sd_dark D k (y + (m - 1 - i)) <;> rfl
      have hq : qq D V y k (m - 1 - i) ≤ 20 := by unfold qq; split <;> omega
      have hn := q3 i (Nat.le_refl _)
      rw [e1, if_neg (nI_pos (by omega)), nI_add, s_isDark h (by omega) (by omega), rs_b1_some, s_of0 hX hk, hb, rs_b1_some, s_of1 hX hk, rs_b1_some, rs_lt_eq, nI_add]
      have e2 : (if 0 < nI (nd (qq D V y k) (V 1 k) m i + V 1 k) - nI (qq D V y k (m - 1 - i)) then nI (nd (qq D V y k) (V 1 k) m i + V 1 k) - nI (qq D V y k (m - 1 - i)) else 0) = nI (nd (qq D V y k) (V 1 k) m (i + 1)) := by
        rw [nd_succ]
        have t : (nI (nd (qq D V y k) (V 1 k) m i + V 1 k) - nI (qq D V y k (m - 1 - i))).toInt = ((nd (qq D V y k) (V 1 k) m i + V 1 k : Nat) : Int) - (qq D V y k (m - 1 - i) : Nat) := pk_sub_toInt (by omega) (by omega)
        have t0 : (0 : Int32).toInt = 0 := rfl
        by_cases c : qq D V y k (m - 1 - i) < nd (qq D V y k) (V 1 k) m i + V 1 k
        · rw [if_pos (by rw [pn_lt, t, t0]; omega), pk_sub (by omega)]
        · rw [if_neg (by rw [pn_lt, t, t0]; omega), show nd (qq D V y k) (V 1 k) m i + V 1 k - qq D V y k (m - 1 - i) = 0 by omega]
          rfl
      rw [e2]
      have hle : nd (qq D V y k) (V 1 k) m (i + 1) ≤ 200 := by rw [nd_succ]; omega
      by_cases c : nd (qq D V y k) (V 1 k) m (i + 1) ≤ V 3 k
      · rw [if_pos (nI_le c (by omega))]
        refine Or.inl ⟨_, rfl, ⟨?_, rfl, ?_⟩, by omega⟩
        · dsimp only
          rw [← e1, ← nI_1]
          grind
        · intro t ht
          by_cases c2 : t = i + 1
          · rw [c2]; exact c
          · exact q3 t (by omega)
      · rw [if_neg (nI_ge (by omega) (by omega))]
        refine Or.inr ⟨_, rfl, ?_⟩
        rw [nr_neg (fun z => c (z (i + 1) (by omega)))]
        rfl) N 0 (0, nI m - 1) (by omega) (by omega) ⟨by dsimp only; rw [nI_0]; grind, rfl, fun t ht => by
          have : t = 0 := by omega
          subst this
          exact Nat.zero_le _⟩
  rw [h1]
  exact h2
theorem vup_vup (V : Nat → Nat → Nat) (j k a b : Nat) : vup (vup V j k a) j k b = vup V j k b := by
  funext x z
  unfold vup
  split <;> rfl
theorem vup_id (V : Nat → Nat → Nat) (j k : Nat) : vup V j k (V j k) = V := by
  funext x z
  unfold vup
  split
  · rename_i h
    rw [h.1, h.2]
  · rfl
theorem s_lasts {D : Nat → Nat} (h : sd_ok D) {V : Nat → Nat → Nat} (hV : vok V) {f b : Nat → Int32} (hM : MS V f) (hb : ∀ k, k < 9 → b k = nI (V 2 k)) {N : Nat} (hN : 200 < N) {y k m x : Nat} (hy : y < 2 ^ 22) (hk : k < 9) (hm : m ≤ 100) (hx : x ≤ V 3 k) :
    ∃ (z : Bool) (f2 : Nat → Int32), f_X11_lastsFor N (nI k) (nI x) (nI m) (nI (D 0)) (nI (D 1)) (nI (D 2)) (nI (D 3)) (nI (D 4)) (nI (D 5)) (nI (D 6)) (nI y) f b = some (b2 z, f2) ∧ MS V f2 ∧ (z = true ↔ okk (qq D V y k) (V 1 k) (V 3 k) m m x) := by
  obtain ⟨v1, v2, v3, v4⟩ := hV k hk
  unfold f_X11_lastsFor
  rw [s_at2, rs_b1_some, if_neg (nI_in (c := 9 * 2 + k) (N := 36) (by omega) (by omega)), nI_clamp (n := 9 * 2 + k) (by omega)]
  unfold rs_l3
  obtain ⟨r, h1, h2⟩ := rs_loop_inv (body := fun s : (Nat → Int32) × Int32 × Int32 => f_X11_lastsFor_L17 (nI m) (nI k) (nI y) (nI (D 0)) (nI (D 1)) (nI (D 2)) (nI (D 3)) (nI (D 4)) (nI (D 5)) (nI (D 6)) s.1 s.2.1 s.2.2) (fun i s => s.2.2 = nI i ∧ ∃ (w : Bool) (u : Nat), s.2.1 = b2 w ∧ MS (vup V 2 k u) s.1 ∧ u ≤ V 3 k ∧ (w = false → ¬ okk (qq D V y k) (V 1 k) (V 3 k) m m x) ∧ (w = true → (okk (qq D V y k) (V 1 k) (V 3 k) m m x ↔ okk (qq D V y k) (V 1 k) (V 3 k) m (m - i) u))) (fun r => ∃ (w : Bool) (u : Nat), r.2 = b2 w ∧ MS (vup V 2 k u) r.1 ∧ (w = true ↔ okk (qq D V y k) (V 1 k) (V 3 k) m m x)) m (by
    rintro i ⟨g, a, c⟩ hi ⟨q1, w, u, q2, q3, q4, q5, q6⟩
    dsimp only at q1 q2 q3 q4 q5 q6 ⊢
    subst q1 q2
    unfold f_X11_lastsFor_L17
    by_cases hc : m ≤ i
    · have : i = m := by omega
      subst this
      rw [if_pos (nI_le hc (by omega))]
      refine Or.inr ⟨_, rfl, w, u, rfl, q3, ?_⟩
      cases w with
      | false => exact ⟨(fun z => by cases z), fun z => absurd z (q5 rfl)⟩
      | true =>
        have := q6 rfl
        rw [Nat.sub_self] at this
        exact ⟨fun _ => this.mpr trivial, fun _ => rfl⟩
    · rw [if_neg (nI_ge (by omega) (by omega))]
      cases w with
      | false =>
        rw [if_pos (show b2 false = 0 from rfl)]
        exact Or.inr ⟨_, rfl, false, u, rfl, q3, (fun z => by cases z), fun z => absurd z (q5 rfl)⟩
      | true =>
        have hVu : vok (vup V 2 k u) := by
          intro a ha
          obtain ⟨w1, w2, w3, w4⟩ := hV a ha
          rw [vup_n V (by omega), vup_n V (by omega), vup_n V (by omega)]
          by_cases hak : a = k
          · subst hak
            rw [vup_s]
            exact ⟨w1, w2, w3, q4⟩
          · rw [vup_n V (by omega)]
            exact ⟨w1, w2, w3, w4⟩
        rw [if_neg (show ¬ b2 true = 0 by decide), nI_add, s_isLit h (by omega) (by omega), rs_b1_some, s_eats hVu q3 hk, rs_b2_some, nI_1]
        have et : fd_t (vup V 2 k u) k (!sd_dark D k (y + i)) = u + qq D V y k i := by
          unfold fd_t qq
          rw [vup_s, vup_n V (by omega)]
          cases sd_dark D k (y + i) <;> rfl
        have eh : fd_h (vup V 2 k u) k (!sd_dark D k (y + i)) = decide (u + qq D V y k i < V 1 k) := by
          unfold fd_h
          rw [et, vup_n V (by omega)]
        have es : fd_s (vup V 2 k u) k (!sd_dark D k (y + i)) = if u + qq D V y k i < V 1 k then 0 else if u + qq D V y k i - V 1 k ≤ V 3 k then u + qq D V y k i - V 1 k else V 3 k := by
          unfold fd_s
          rw [et, vup_n V (by omega), vup_n V (by omega)]
        have hle := fd_s_le (V := vup V 2 k u) k (!sd_dark D k (y + i))
        rw [vup_n V (by omega)] at hle
        have hM2 := MS_up q3 (j := 2) (k := k) (v := fd_s (vup V 2 k u) k (!sd_dark D k (y + i))) (by omega) hk
        rw [vup_vup] at hM2
        have q7 := q6 rfl
        rw [show m - i = (m - (i + 1)) + 1 by omega] at q7
        have q8 : okk (qq D V y k) (V 1 k) (V 3 k) m (m - (i + 1) + 1) u ↔ (V 1 k ≤ u + qq D V y k i ∧ okk (qq D V y k) (V 1 k) (V 3 k) m (m - (i + 1)) (if u + qq D V y k i - V 1 k ≤ V 3 k then u + qq D V y k i - V 1 k else V 3 k)) := by
          have ei : m - 1 - (m - (i + 1)) = i := by omega
          show (V 1 k ≤ u + qq D V y k (m - 1 - (m - (i + 1))) ∧ okk (qq D V y k) (V 1 k) (V 3 k) m (m - (i + 1)) (if u + qq D V y k (m - 1 - (m - (i + 1))) - V 1 k ≤ V 3 k then u + qq D V y k (m - 1 - (m - (i + 1))) - V 1 k else V 3 k)) ↔ _
          rw [ei]
        rw [eh]
        by_cases cc : u + qq D V y k i < V 1 k
        · refine Or.inl ⟨(upd g (9 * 2 + k) (nI (fd_s (vup V 2 k u) k (!sd_dark D k (y + i)))), 0, nI (i + 1)), by rw [decide_eq_true cc]; rfl, ⟨rfl, false, fd_s (vup V 2 k u) k (!sd_dark D k (y + i)), rfl, hM2, hle, ?_, fun z => by cases z⟩, by omega⟩
          · intro _ z
            have := (q8.mp (q7.mp z)).1
            omega
        · refine Or.inl ⟨(upd g (9 * 2 + k) (nI (fd_s (vup V 2 k u) k (!sd_dark D k (y + i)))), 1, nI (i + 1)), by rw [decide_eq_false cc]; rfl, ⟨rfl, true, fd_s (vup V 2 k u) k (!sd_dark D k (y + i)), rfl, hM2, hle, (fun z => by cases z), ?_⟩, by omega⟩
          · intro _
            rw [q7, q8, es, if_neg cc]
            exact ⟨fun z => z.2, fun z => ⟨by omega, z⟩⟩) N 0 (upd f (9 * 2 + k) (nI x), 1, 0) (by omega) (by omega) ⟨rfl, true, x, rfl, MS_up hM (by omega) hk, hx, (fun z => by cases z), fun _ => Iff.rfl⟩
  obtain ⟨r1, r2⟩ := r
  obtain ⟨w, u, w1, w2, w3⟩ := h2
  dsimp only at w1 w2
  subst w1
  rw [h1, rs_b2_some, rs_b1_some, if_neg (nI_in (c := k) (N := 9) (by omega) (by omega)), nI_clamp (n := k) (by omega), hb k hk, rs_lt_eq, if_neg (nI_in (c := 9 * 2 + k) (N := 36) (by omega) (by omega)), nI_clamp (n := 9 * 2 + k) (by omega), if_pos (b2_nar w)]
  refine ⟨w, _, rfl, ?_, w3⟩
  have := MS_up w2 (j := 2) (k := k) (v := V 2 k) (by omega) hk
  rw [vup_vup, vup_id] at this
  exact this
theorem s_needM {D : Nat → Nat} (h : sd_ok D) {V : Nat → Nat → Nat} (hV : vok V) {f b : Nat → Int32} (hM : MS V f) (hb : ∀ k, k < 9 → b k = nI (V 2 k)) {N : Nat} (hN : 200 < N) {y k m : Nat} (hy : y < 2 ^ 22) (hk : k < 9) (hm : m ≤ 100) :
    ∃ f2, f_X11_needOf N (nI k) (nI m) (nI (D 0)) (nI (D 1)) (nI (D 2)) (nI (D 3)) (nI (D 4)) (nI (D 5)) (nI (D 6)) (nI y) f b = some (nr (qq D V y k) (V 1 k) (V 3 k) m, f2) ∧ MS V f2 := by
  obtain ⟨v1, v2, v3, v4⟩ := hV k hk
  unfold f_X11_needOf rs_l2
  obtain ⟨r, h1, h2⟩ := rs_loop_inv (body := fun s : (Nat → Int32) × Int32 => f_X11_needOf_L2 N (nI k) (nI m) (nI (D 0)) (nI (D 1)) (nI (D 2)) (nI (D 3)) (nI (D 4)) (nI (D 5)) (nI (D 6)) (nI y) b s.1 s.2) (fun i s => s.2 = nI i ∧ MS V s.1 ∧ (∀ t, t < i → ¬ okk (qq D V y k) (V 1 k) (V 3 k) m m t)) (fun r => ∃ f2, rs_m1 (some r) (fun (f14 : (Nat → Int32)) => some ((-6), f14)) = some (nr (qq D V y k) (V 1 k) (V 3 k) m, f2) ∧ MS V f2) (V 3 k + 1) (by
    rintro i ⟨g, a⟩ hi ⟨q1, q2, q3⟩
    dsimp only at q1 q2 q3 ⊢
    subst q1
    unfold f_X11_needOf_L2
    rw [s_at3, rs_b1_some, if_neg (nI_in (c := 9 * 3 + k) (N := 36) (by omega) (by omega)), nI_clamp (n := 9 * 3 + k) (by omega), q2 k hk 3 (by omega)]
    by_cases c : V 3 k < i
    · rw [if_pos (nI_lt c (by omega))]
      refine Or.inr ⟨_, rfl, g, ?_, q2⟩
      have : ¬ nok (qq D V y k) (V 1 k) (V 3 k) m := by
        intro z
        exact q3 (V 3 k) c ((okk_iff _ _ _ _ _ _ (Nat.le_refl _)).mpr ⟨fun t ht => z t (by omega), z m (Nat.le_refl _)⟩)
      rw [nr_neg this]
      rfl
    · rw [if_neg (nI_nlt (by omega) (by omega))]
      obtain ⟨z, f2, w1, w2, w3⟩ := s_lasts h hV q2 hb hN (x := i) hy hk hm (by omega)
      rw [w1, rs_b2_some, nI_1]
      cases z with
      | false =>
        refine Or.inl ⟨_, rfl, ⟨rfl, w2, ?_⟩, by omega⟩
        intro t ht
        by_cases c2 : t = i
        · subst c2
          intro z
          have := w3.mpr z
          cases this
        · exact q3 t (by omega)
      | true =>
        refine Or.inr ⟨_, rfl, f2, ?_, w2⟩
        have k1 := (okk_iff _ _ _ _ _ _ (show i ≤ V 3 k by omega)).mp (w3.mp rfl)
        have k2 : nok (qq D V y k) (V 1 k) (V 3 k) m := by
          intro t ht
          by_cases c2 : t = m
          · subst c2; omega
          · exact k1.1 t (by omega)
        have k3 : nd (qq D V y k) (V 1 k) m m = i := by
          by_cases c2 : nd (qq D V y k) (V 1 k) m m < i
          · exact absurd ((okk_iff _ _ _ _ _ _ (by omega)).mpr ⟨k1.1, Nat.le_refl _⟩) (q3 _ c2)
          · omega
        rw [nr_pos k2, k3]
        rfl) N 0 (f, 0) (by omega) (by omega) ⟨rfl, hM, fun t ht => by omega⟩
  rw [h1]
  exact h2
theorem e_needs {D : Nat → Nat} (h : sd_ok D) {V : Nat → Nat → Nat} (hV : vok V) {f g : Nat → Int32} (hX : XS V f) (hM : MS V g) {N : Nat} (hN : 200 < N) {y : Nat} (hy : y < 2 ^ 22) (p1 p2 : Int32) (m1 m2 : Int32) (b1 b2' : Nat → Int32) :
    ∃ (r n1 n2 : Int32) (g2 d1 d2 : Nat → Int32), f_X10_needs N p1 p2 (nI y) (nI (D 0)) (nI (D 1)) (nI (D 2)) (nI (D 3)) (nI (D 4)) (nI (D 5)) (nI (D 6)) f = some r ∧ f_X11_needs N p1 p2 (nI (D 0)) (nI (D 1)) (nI (D 2)) (nI (D 3)) (nI (D 4)) (nI (D 5)) (nI (D 6)) (nI y) m1 m2 g b1 b2' = some (r, n1, n2, g2, d1, d2) ∧ MS V g2 := by
  have hb := h.2.1
  unfold f_X10_needs f_X11_needs
  rw [s_hasLand p1 h.1 h.2.1, s_isLand p1 h.1 h.2.1, s_within, s_in]
  simp only [rs_b1_some, b2_0]
  cases g1 : isl p1 (D 0) with
  | false => exact ⟨-1, m1, m2, g, b1, b2', rfl, rfl, hM⟩
  | true =>
    cases h2 : ins p2 1 99 with
    | false =>
      have e1 : (decide ((1 : Int32).toInt ≤ p2.toInt) && decide (p2.toInt ≤ (99 : Int32).toInt)) = false := h2
      have e2 : (decide ((1 : Int64).toInt ≤ p2.toInt) && decide (p2.toInt ≤ (99 : Int64).toInt)) = false := h2
      rw [e1, e2]
      exact ⟨-2, m1, m2, g, b1, b2', rfl, rfl, hM⟩
    | true =>
      have e1 : (decide ((1 : Int32).toInt ≤ p2.toInt) && decide (p2.toInt ≤ (99 : Int32).toInt)) = true := h2
      have e2 : (decide ((1 : Int64).toInt ≤ p2.toInt) && decide (p2.toInt ≤ (99 : Int64).toInt)) = true := h2
      rw [e1, e2]
      obtain ⟨k, hk, rfl⟩ := isl_of g1
      obtain ⟨m, q3, q4, rfl⟩ := ins_of1 (a := 1) (b := 99) h2
      obtain ⟨b3, b4, w4, w5, w6⟩ := s_keepNow hM (nI y) b1 b2' (N := N) (by omega)
      obtain ⟨f2, w7, w8⟩ := s_needM h hV hM w5 hN hy (k := k) (m := m) (by omega) (by omega)
      simp only [itf]
      rw [s_needX h hV hX hN hy (k := k) (m := m) (by omega) (by omega), w4]
      show ∃ (r n1 n2 : Int32) (g2 d1 d2 : Nat → Int32), _ ∧ rs_b2 (f_X11_needOf N (nI k) (nI m) (nI (D 0)) (nI (D 1)) (nI (D 2)) (nI (D 3)) (nI (D 4)) (nI (D 5)) (nI (D 6)) (nI y) g b3) _ = _ ∧ _
      rw [w7]
      exact ⟨_, _, _, f2, _, _, rfl, rfl, w8⟩
