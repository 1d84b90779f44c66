def pw (w : Nat) : Nat → Nat → Nat
  | 0, _ => 1
  | k + 1, x => (if x % 2 = 1 then w else 10 - w) * pw w k (x / 2)
def rok (q : Nat → Bool) (g e c m : Nat) : Nat → Nat → Nat → Bool
  | 0, _, _ => true
  | k + 1, x, s => decide (e ≤ s + (if x % 2 = 1 then 0 else if q (m - 1 - k) then g else 0)) && rok q g e c m k (x / 2) (if s + (if x % 2 = 1 then 0 else if q (m - 1 - k) then g else 0) - e ≤ c then s + (if x % 2 = 1 then 0 else if q (m - 1 - k) then g else 0) - e else c)
theorem pw_s (w k x : Nat) : pw w (k + 1) x = (if x % 2 = 1 then w else 10 - w) * pw w k (x / 2) := rfl
theorem rok_s (q : Nat → Bool) (g e c m k x s : Nat) : rok q g e c m (k + 1) x s = (decide (e ≤ s + (if x % 2 = 1 then 0 else if q (m - 1 - k) then g else 0)) && rok q g e c m k (x / 2) (if s + (if x % 2 = 1 then 0 else if q (m - 1 - k) then g else 0) - e ≤ c then s + (if x % 2 = 1 then 0 else if q (m - 1 - k) then g else 0) - e else c)) := rfl
theorem sm_two (f : Nat → Nat) : ∀ n, sm f (2 * n) = sm (fun x => f (2 * x) + f (2 * x + 1)) n
  | 0 => rfl
  | n + 1 => by
    show sm f (2 * n + 2) = sm (fun x => f (2 * x) + f (2 * x + 1)) n + (f (2 * n) + f (2 * n + 1))
    rw [← sm_two f n]
    show sm f (2 * n) + f (2 * n) + f (2 * n + 1) = _
    omega
theorem pw_sum {w : Nat} (hw : w ≤ 10) : ∀ k, sm (pw w k) (2 ^ k) = 10 ^ k
  | 0 => rfl
  | k + 1 => by
    rw [Nat.pow_succ, Nat.mul_comm, sm_two, Nat.pow_succ, ← pw_sum hw k, Nat.mul_comm, ← sm_mul]
    refine sm_cong _ (fun x _ => ?_)
    rw [pw_s, pw_s, if_neg (by omega), if_pos (by omega), show 2 * x / 2 = x by omega, show (2 * x + 1) / 2 = x by omega, ← Nat.add_mul, show 10 - w + w = 10 by omega]
theorem nx_mul (H : Nat → Nat) (T e c t : Nat) : nx (fun s => H s * T) e c t = nx H e c t * T := by
  unfold nx
  split
  · rfl
  · rw [Nat.zero_mul]
theorem rok_sum {q : Nat → Bool} {g e c m w : Nat} (hw : w ≤ 10) : ∀ k s, sm (fun x => if rok q g e c m k x s then pw w k x else 0) (2 ^ k) = GX q g e c w m k s * 10 ^ (k - LX q m k)
  | 0, s => rfl
  | k + 1, s => by
    have hL := LX_le q m k
    have ih := rok_sum (q := q) (g := g) (e := e) (c := c) (m := m) hw k
    have key : ∀ v t, sm (fun x => if (decide (e ≤ t) && rok q g e c m k x (if t - e ≤ c then t - e else c)) then v * pw w k x else 0) (2 ^ k) = v * (nx (GX q g e c w m k) e c t * 10 ^ (k - LX q m k)) := by
      intro v t
      unfold nx
      by_cases ce : e ≤ t
      · rw [if_pos ce, ← ih, ← sm_mul]
        refine sm_cong _ (fun x _ => ?_)
        rw [decide_eq_true ce, Bool.true_and]
        cases rok q g e c m k x (if t - e ≤ c then t - e else c) <;> rfl
      · rw [if_neg ce, Nat.zero_mul, Nat.mul_zero]
        refine sm_z _ (fun x _ => ?_)
        rw [decide_eq_false ce, Bool.false_and]
        rfl
    rw [Nat.pow_succ, Nat.mul_comm, sm_two]
    have e1 : sm (fun x => (if rok q g e c m (k + 1) (2 * x) s then pw w (k + 1) (2 * x) else 0) + (if rok q g e c m (k + 1) (2 * x + 1) s then pw w (k + 1) (2 * x + 1) else 0)) (2 ^ k) = 1 * sm (fun x => if (decide (e ≤ s + (if q (m - 1 - k) then g else 0)) && rok q g e c m k x (if s + (if q (m - 1 - k) then g else 0) - e ≤ c then s + (if q (m - 1 - k) then g else 0) - e else c)) then (10 - w) * pw w k x else 0) (2 ^ k) + 1 * sm (fun x => if (decide (e ≤ s) && rok q g e c m k x (if s - e ≤ c then s - e else c)) then w * pw w k x else 0) (2 ^ k) := by
      rw [sm_lin]
      refine sm_cong _ (fun x _ => ?_)
      rw [rok_s, rok_s, pw_s, pw_s, show 2 * x / 2 = x by omega, show (2 * x + 1) / 2 = x by omega, if_neg (show ¬ 2 * x % 2 = 1 by omega), if_neg (show ¬ 2 * x % 2 = 1 by omega), if_pos (show (2 * x + 1) % 2 = 1 by omega), if_pos (show (2 * x + 1) % 2 = 1 by omega), Nat.one_mul, Nat.one_mul, Nat.add_zero]
    have e2 := key (10 - w) (s + (if q (m - 1 - k) then g else 0))
    have e3 := key w s
    rw [e1, Nat.one_mul, Nat.one_mul, e2, e3, GX_s, LX_s]
    cases q (m - 1 - k)
    · show (10 - w) * (nx (GX q g e c w m k) e c (s + 0) * 10 ^ (k - LX q m k)) + w * (nx (GX q g e c w m k) e c s * 10 ^ (k - LX q m k)) = nx (GX q g e c w m k) e c s * 10 ^ (k + 1 - LX q m k)
      rw [Nat.add_zero, ← Nat.add_mul, show 10 - w + w = 10 by omega, show k + 1 - LX q m k = (k - LX q m k) + 1 by omega, Nat.pow_succ, Nat.mul_comm 10, Nat.mul_assoc]
    · show (10 - w) * (nx (GX q g e c w m k) e c (s + g) * 10 ^ (k - LX q m k)) + w * (nx (GX q g e c w m k) e c s * 10 ^ (k - LX q m k)) = ((10 - w) * nx (GX q g e c w m k) e c (s + g) + w * nx (GX q g e c w m k) e c s) * 10 ^ (k + 1 - (LX q m k + 1))
      rw [show k + 1 - (LX q m k + 1) = k - LX q m k by omega, Nat.add_mul, Nat.mul_assoc, Nat.mul_assoc]
theorem bit_i : ∀ i, i < 12 → ((nI i &&& 31).toBitVec.smod 32).toNat = i := by decide +kernel
theorem two_i : ∀ i, i ≤ 12 → ((1 : Int32) <<< (nI i &&& 31)) = nI (2 ^ i) := by decide +kernel
theorem bit_x {x i : Nat} (hx : x < 2 ^ 31) (hi : i < 12) : ((nI x >>> (nI i &&& 31)) &&& 1) = nI (x / 2 ^ i % 2) := by
  rw [pk_shrN hx _ i (bit_i i hi), show (1 : Int32) = nI 1 from rfl, nI_and, Nat.and_one_is_mod]
theorem s_dustM1 {D : Nat → Nat} (h : sd_ok D) {V : Nat → Nat → Nat} (hV : vok V) {f : Nat → Int32} {N : Nat} (hN : 200 < N) {y k m w x s0 : Nat} (hM : MS (vup V 2 k s0) f) (hy : y < 2 ^ 22) (hk : k < 9) (hm : m ≤ 12) (hw : w ≤ 10) (hx : x < 2 ^ 31) (hs : s0 ≤ V 3 k) :
    ∃ (f2 : Nat → Int32) (u : Nat), rs_l4 (f_X11_dust_L101 (nI m) (nI x) (nI w) (nI k) (nI y) (nI (D 0)) (nI (D 1)) (nI (D 2)) (nI (D 3)) (nI (D 4)) (nI (D 5)) (nI (D 6))) N f 1 1 0 = some (f2, lN (pw w m x), b2 (rok (fun i => !sd_dark D k (y + i)) (V 0 k) (V 1 k) (V 3 k) m m x s0)) ∧ MS (vup V 2 k u) f2 ∧ u ≤ V 3 k := by
  obtain ⟨v1, v2, v3, v4⟩ := hV k hk
  generalize hq : (fun i => !sd_dark D k (y + i)) = q
  have hqi : ∀ i, q i = !sd_dark D k (y + i) := fun i => by rw [← hq]
  unfold rs_l4
  obtain ⟨r, q1, q2⟩ := rs_loop_inv (body := fun s : (Nat → Int32) × Int64 × Int32 × Int32 => f_X11_dust_L101 (nI m) (nI x) (nI w) (nI k) (nI y) (nI (D 0)) (nI (D 1)) (nI (D 2)) (nI (D 3)) (nI (D 4)) (nI (D 5)) (nI (D 6)) s.1 s.2.1 s.2.2.1 s.2.2.2) (fun i s => s.2.2.2 = nI i ∧ ∃ (u a : Nat) (o : Bool), MS (vup V 2 k u) s.1 ∧ u ≤ V 3 k ∧ s.2.1 = lN a ∧ a * pw w (m - i) (x / 2 ^ i) = pw w m x ∧ s.2.2.1 = b2 o ∧ (o && rok q (V 0 k) (V 1 k) (V 3 k) m (m - i) (x / 2 ^ i) u) = rok q (V 0 k) (V 1 k) (V 3 k) m m x s0) (fun r => ∃ u : Nat, MS (vup V 2 k u) r.1 ∧ u ≤ V 3 k ∧ r.2 = (lN (pw w m x), b2 (rok q (V 0 k) (V 1 k) (V 3 k) m m x s0))) m (by
    rintro i ⟨g, x1, x2, x3⟩ hi ⟨k1, u, a, o, k2, k3, k4, k5, k6, k7⟩
    dsimp only at k1 k2 k4 k6 ⊢
    subst k1 k4 k6
    unfold f_X11_dust_L101
    by_cases cc : m ≤ i
    · have : i = m := by omega
      subst this
      rw [Nat.sub_self] at k5 k7
      have k5' : a * 1 = pw w i x := k5
      have k7' : (o && true) = rok q (V 0 k) (V 1 k) (V 3 k) i i x s0 := k7
      rw [Nat.mul_one] at k5'
      rw [Bool.and_true] at k7'
      rw [if_pos (nI_le cc (by omega)), k5', k7']
      exact Or.inr ⟨_, rfl, u, k2, k3, rfl⟩
    · have hVu : vok (vup V 2 k u) := by
        intro a ha
        obtain ⟨w1, w2, w3, w4⟩ := hV a ha
        rw [vup_n V (by omega), vup_n V (by omega), vup_n V (by omega)]
        by_cases hak : a = k
        · subst hak
          rw [vup_s]
          exact ⟨w1, w2, w3, k3⟩
        · rw [vup_n V (by omega)]
          exact ⟨w1, w2, w3, w4⟩
      have em : m - i = (m - (i + 1)) + 1 := by omega
      have ei : m - 1 - (m - (i + 1)) = i := by omega
      have ex : x / 2 ^ i / 2 = x / 2 ^ (i + 1) := by rw [Nat.div_div_eq_div_mul, Nat.pow_succ]
      rw [em, pw_s, ex] at k5
      rw [em, rok_s, ei, ex] at k7
      rw [if_neg (nI_ge (by omega) (by omega)), bit_x hx (by omega), nI_add, s_isLit h (by omega) (by omega), rs_b1_some, show (10 : Int32) - nI w = nI (10 - w) from pk_sub (a := 10) (by omega), nI_l (n := 10 - w) (by omega), nI_l (n := w) (by omega)]
      have f1 : (if nI (x / 2 ^ i % 2) = 1 then some (1 : Int32) else some 0) = some (b2 (decide (x / 2 ^ i % 2 = 1))) := by
        by_cases c : x / 2 ^ i % 2 = 1
        · rw [c]; rfl
        · rw [show x / 2 ^ i % 2 = 0 by omega]; rfl
      rw [f1, rs_b1_some]
      generalize hB : decide (x / 2 ^ i % 2 = 1) = B
      have f2 : (if b2 B = 0 then some (lN (10 - w)) else some (lN w)) = some (lN (if x / 2 ^ i % 2 = 1 then w else 10 - w)) := by
        rw [← hB]
        by_cases c : x / 2 ^ i % 2 = 1
        · rw [decide_eq_true c, if_pos c]; rfl
        · rw [decide_eq_false c, if_neg c]; rfl
      rw [f2, rs_b1_some, rs_lt_eq, lN_mul]
      have f3 : (if b2 B = 0 then if b2 (!sd_dark D k (y + i)) = 0 then some (0 : Int32) else some 1 else some 0) = some (b2 (!B && q i)) := by
        rw [hqi i]
        cases B <;> cases sd_dark D k (y + i) <;> rfl
      rw [f3, rs_b1_some, s_eats hVu k2 hk, rs_b2_some, nI_1]
      have et : fd_t (vup V 2 k u) k (!B && q i) = u + (if x / 2 ^ i % 2 = 1 then 0 else if q i then V 0 k else 0) := by
        unfold fd_t
        rw [vup_s, vup_n V (by omega), ← hB]
        by_cases c : x / 2 ^ i % 2 = 1
        · rw [decide_eq_true c, if_pos c]; rfl
        · rw [decide_eq_false c, if_neg c]; rfl
      generalize hT : u + (if x / 2 ^ i % 2 = 1 then 0 else if q i then V 0 k else 0) = T at k7 et
      have eh : fd_h (vup V 2 k u) k (!B && q i) = decide (T < V 1 k) := by
        unfold fd_h
        rw [et, vup_n V (by omega)]
      have es : fd_s (vup V 2 k u) k (!B && q i) = if T < V 1 k then 0 else if T - V 1 k ≤ V 3 k then T - V 1 k else V 3 k := by
        unfold fd_s
        rw [et, vup_n V (by omega), vup_n V (by omega)]
      have hle := fd_s_le (V := vup V 2 k u) k (!B && q i)
      rw [vup_n V (by omega)] at hle
      have hM2 := MS_up k2 (j := 2) (k := k) (v := fd_s (vup V 2 k u) k (!B && q i)) (by omega) hk
      rw [vup_vup] at hM2
      rw [eh]
      have f4 : (if b2 (decide (T < V 1 k)) = 0 then if b2 o = 0 then some (0 : Int32) else some 1 else some 0) = some (b2 (o && !decide (T < V 1 k))) := by
        cases decide (T < V 1 k) <;> cases o <;> rfl
      rw [f4, rs_b1_some]
      refine Or.inl ⟨_, rfl, ⟨rfl, fd_s (vup V 2 k u) k (!B && q i), a * (if x / 2 ^ i % 2 = 1 then w else 10 - w), o && !decide (T < V 1 k), hM2, hle, rfl, ?_, rfl, ?_⟩, by omega⟩
      · rw [Nat.mul_assoc]; exact k5
      · rw [← k7, es]
        by_cases c : T < V 1 k
        · have c' : ¬ V 1 k ≤ T := by omega
          rw [decide_eq_true c, decide_eq_false c']
          cases o <;> rfl
        · have c' : V 1 k ≤ T := by omega
          rw [decide_eq_false c, decide_eq_true c', if_neg c]
          cases o <;> rfl) N 0 (f, 1, 1, 0) (by omega) (by omega) ⟨rfl, s0, 1, true, hM, hs, rfl, by rw [Nat.one_mul, Nat.sub_zero, Nat.pow_zero, Nat.div_one], rfl, by rw [Bool.true_and, Nat.sub_zero, Nat.pow_zero, Nat.div_one]⟩
  obtain ⟨r1, r2⟩ := r
  obtain ⟨u, w1, w2, w3⟩ := q2
  dsimp only at w1 w3
  subst w3
  exact ⟨r1, u, q1, w1, w2⟩
theorem s_dustM {D : Nat → Nat} (h : sd_ok D) {V : Nat → Nat → Nat} (hV : vok V) {f : Nat → Int32} {N : Nat} (hN : 5000 < N) {y k m w : Nat} (hM : MS V f) (hy : y < 2 ^ 22) (hk : k < 9) (hm : m ≤ 12) (hw : w ≤ 10) :
    ∃ (f2 : Nat → Int32) (u : Nat), rs_l4 (f_X11_dust_L72 N (nI m) (nI k) (nI w) (nI y) (nI (D 0)) (nI (D 1)) (nI (D 2)) (nI (D 3)) (nI (D 4)) (nI (D 5)) (nI (D 6)) (nI (V 2 k))) N f 0 0 0 = some (f2, lN (GX (fun i => !sd_dark D k (y + i)) (V 0 k) (V 1 k) (V 3 k) w m m (V 2 k) * 10 ^ (m - LX (fun i => !sd_dark D k (y + i)) m m)), lN (10 ^ m)) ∧ MS (vup V 2 k u) f2 := by
  obtain ⟨v1, v2, v3, v4⟩ := hV k hk
  have h12 : 2 ^ m ≤ 2 ^ 12 := Nat.pow_le_pow_right (by omega) hm
  have h12' : (2 : Nat) ^ 12 = 4096 := rfl
  rw [← rok_sum hw m (V 2 k), ← pw_sum hw m]
  generalize hq : (fun i => !sd_dark D k (y + i)) = q
  unfold rs_l4
  obtain ⟨r, q1, q2⟩ := rs_loop_inv (body := fun s : (Nat → Int32) × Int32 × Int64 × Int64 => f_X11_dust_L72 N (nI m) (nI k) (nI w) (nI y) (nI (D 0)) (nI (D 1)) (nI (D 2)) (nI (D 3)) (nI (D 4)) (nI (D 5)) (nI (D 6)) (nI (V 2 k)) s.1 s.2.1 s.2.2.1 s.2.2.2) (fun i s => s.2.1 = nI i ∧ (∃ u : Nat, MS (vup V 2 k u) s.1) ∧ s.2.2.1 = lN (sm (fun x => if rok q (V 0 k) (V 1 k) (V 3 k) m m x (V 2 k) then pw w m x else 0) i) ∧ s.2.2.2 = lN (sm (pw w m) i)) (fun r => (∃ u : Nat, MS (vup V 2 k u) r.1) ∧ r.2 = (lN (sm (fun x => if rok q (V 0 k) (V 1 k) (V 3 k) m m x (V 2 k) then pw w m x else 0) (2 ^ m)), lN (sm (pw w m) (2 ^ m)))) (2 ^ m) (by
    rintro i ⟨g, x1, x2, x3⟩ hi ⟨k1, ⟨u, k2⟩, k3, k4⟩
    dsimp only at k1 k2 k3 k4 ⊢
    subst k1 k3 k4
    unfold f_X11_dust_L72
    rw [two_i m hm]
    by_cases cc : 2 ^ m ≤ i
    · have : i = 2 ^ m := by omega
      rw [if_pos (nI_le cc (by omega)), this]
      exact Or.inr ⟨_, rfl, ⟨u, k2⟩, rfl⟩
    · have hM2 := MS_up k2 (j := 2) (k := k) (v := V 2 k) (by omega) hk
      rw [vup_vup] at hM2
      obtain ⟨f2, u2, w1, w2, w3⟩ := s_dustM1 h hV (N := N) (by omega) (x := i) (m := m) hM2 hy hk hm hw (by omega) v4
      rw [hq] at w1
      rw [if_neg (nI_ge (by omega) (by omega)), s_at2, rs_b1_some, if_neg (nI_in (c := 9 * 2 + k) (N := 36) (by omega) (by omega)), nI_clamp (n := 9 * 2 + k) (by omega), w1, rs_b3_some, rs_lt_eq, nI_1, lN_add]
      have f4 : (if b2 (rok q (V 0 k) (V 1 k) (V 3 k) m m i (V 2 k)) = 0 then some 0 else some (lN (pw w m i))) = some (lN (if rok q (V 0 k) (V 1 k) (V 3 k) m m i (V 2 k) then pw w m i else 0)) := by
        cases rok q (V 0 k) (V 1 k) (V 3 k) m m i (V 2 k) <;> rfl
      rw [f4, rs_b1_some, rs_lt_eq, lN_add]
      exact Or.inl ⟨_, rfl, ⟨rfl, ⟨u2, w2⟩, rfl, rfl⟩, by omega⟩) N 0 (f, 0, 0, 0) (Nat.zero_le _) (by omega) ⟨rfl, ⟨V 2 k, by dsimp only; rw [vup_id]; exact hM⟩, rfl, rfl⟩
  obtain ⟨r1, r2⟩ := r
  obtain ⟨⟨u, w1⟩, w3⟩ := q2
  dsimp only at w1 w3
  subst w3
  exact ⟨r1, u, q1, w1⟩
theorem gm_run : ∀ (k a b N : Nat), b < 2 ^ k → k ≤ 45 → a < 2 ^ 63 → 2 * k + 1 ≤ N → rs_loop (fun s : Int64 × Int64 => f_X11_lowest_L6 s.1 s.2) N (lN a, lN b) = some (lN (Nat.gcd a b)) := by
  have g0 : ∀ N a, rs_loop (fun s : Int64 × Int64 => f_X11_lowest_L6 s.1 s.2) (N + 1) (lN a, lN 0) = some (lN a) := by
    intro N a
    unfold rs_loop
    have : f_X11_lowest_L6 (lN a) (lN 0) = some (.inr (lN a)) := by
      unfold f_X11_lowest_L6
      rw [if_pos ((lg_cmp_eq (lN 0) 0).mpr rfl)]
    simp only [this]
    rfl
  have g1 : ∀ {N a b : Nat}, a < 2 ^ 63 → b < 2 ^ 63 → 0 < b → rs_loop (fun s : Int64 × Int64 => f_X11_lowest_L6 s.1 s.2) (N + 1) (lN a, lN b) = rs_loop (fun s : Int64 × Int64 => f_X11_lowest_L6 s.1 s.2) N (lN b, lN (a % b)) := by
    intro N a b ha hb hb0
    have hne : ¬ lN b = 0 := fun e => by
      have := (pk_lEQ (a := b) (b := 0) hb (by omega)).mp e
      omega
    have : f_X11_lowest_L6 (lN a) (lN b) = some (.inl (lN b, lN (a % b))) := by
      unfold f_X11_lowest_L6
      rw [if_neg (fun e => hne ((lg_cmp_eq _ _).mp e)), if_neg hne]
      simp only [rs_lt_eq]
      rw [pk_lRem ha hb0 hb]
    conv => lhs; unfold rs_loop
    simp only [this]
    rfl
  intro k
  induction k with
  | zero =>
    intro a b N hb _ _ hN
    have : b = 0 := by
      have : (2:Nat) ^ 0 = 1 := rfl
      omega
    subst this
    obtain ⟨n, rfl⟩ : ∃ n, N = n + 1 := ⟨N - 1, by omega⟩
    rw [g0, Nat.gcd_zero_right]
  | succ k ih =>
    intro a b N hb hk ha hN
    have hp : (2 : Nat) ^ (k + 1) = 2 * 2 ^ k := by rw [Nat.pow_succ]; omega
    have hbig : (2 : Nat) ^ (k + 1) ≤ 2 ^ 45 := Nat.pow_le_pow_right (by omega) hk
    have h45 : (2 : Nat) ^ 45 < 2 ^ 63 := by decide
    obtain ⟨n, rfl⟩ : ∃ n, N = n + 1 := ⟨N - 1, by omega⟩
    by_cases hb0 : b = 0
    · subst hb0
      rw [g0, Nat.gcd_zero_right]
    · rw [g1 ha (by omega) (by omega)]
      have hr : a % b < b := Nat.mod_lt _ (by omega)
      have hg : Nat.gcd a b = Nat.gcd b (a % b) := by rw [Nat.gcd_comm, Nat.gcd_rec, Nat.gcd_comm]
      by_cases hs : a % b < 2 ^ k
      · rw [ih b (a % b) n hs (by omega) (by omega) (by omega), ← hg]
      · obtain ⟨n2, rfl⟩ : ∃ n2, n = n2 + 1 := ⟨n - 1, by omega⟩
        have hpos : 0 < 2 ^ k := Nat.two_pow_pos k
        have hr2 : b % (a % b) < 2 ^ k := by
          have e : b % (a % b) = b - a % b := by
            rw [Nat.mod_eq_sub_mod (by omega), Nat.mod_eq_of_lt (by omega)]
          omega
        rw [g1 (by omega) (by omega) (by omega), ih (a % b) (b % (a % b)) n2 hr2 (by omega) (by omega) (by omega)]
        have hg2 : Nat.gcd b (a % b) = Nat.gcd (a % b) (b % (a % b)) := by rw [Nat.gcd_comm, Nat.gcd_rec, Nat.gcd_comm]
        rw [hg, hg2]
theorem e_dust {D : Nat → Nat} (h : sd_ok D) {V : Nat → Nat → Nat} (hV : vok V) {f g : Nat → Int32} (hX : XS V f) (hM : MS V g) {N : Nat} (hN : 5000 < N) {y : Nat} (hy : y < 2 ^ 22) (p1 p2 p3 p4 : Int32) (a1 a2 : Int64) (w1 w2 : Nat → Int64) :
    ∃ (r o1 o2 : Int64) (g2 : Nat → Int32), f_X10_dust N p1 p2 p3 p4 (nI y) (nI (D 0)) (nI (D 1)) (nI (D 2)) (nI (D 3)) (nI (D 4)) (nI (D 5)) (nI (D 6)) a1 a2 w1 f w2 = some (r, o1, o2) ∧ f_X11_dust N p1 p2 p3 p4 (nI (D 0)) (nI (D 1)) (nI (D 2)) (nI (D 3)) (nI (D 4)) (nI (D 5)) (nI (D 6)) (nI y) g = some (r, g2) ∧ MS V g2 := by
  have hb := h.2.1
  unfold f_X10_dust f_X11_dust
  rw [s_hasLand p1 h.1 h.2.1, s_isLand p1 h.1 h.2.1]
  simp only [s_within, s_in, rs_b1_some, b2_0]
  cases g1 : isl p1 (D 0) with
  | false => exact ⟨_, _, _, g, rfl, rfl, hM⟩
  | true =>
    cases g2 : ins p2 0 10 with
    | false =>
      have e1 : (decide ((0 : Int32).toInt ≤ p2.toInt) && decide (p2.toInt ≤ (10 : Int32).toInt)) = false := g2
      have e2 : (decide ((0 : Int64).toInt ≤ p2.toInt) && decide (p2.toInt ≤ (10 : Int64).toInt)) = false := g2
      rw [e1, e2]
      exact ⟨_, _, _, g, rfl, rfl, hM⟩
    | true =>
      have e1 : (decide ((0 : Int32).toInt ≤ p2.toInt) && decide (p2.toInt ≤ (10 : Int32).toInt)) = true := g2
      have e2 : (decide ((0 : Int64).toInt ≤ p2.toInt) && decide (p2.toInt ≤ (10 : Int64).toInt)) = true := g2
      rw [e1, e2]
      cases g3 : ins p3 0 12 with
      | false =>
        have e1 : (decide ((0 : Int32).toInt ≤ p3.toInt) && decide (p3.toInt ≤ (12 : Int32).toInt)) = false := g3
        have e2 : (decide ((0 : Int64).toInt ≤ p3.toInt) && decide (p3.toInt ≤ (12 : Int64).toInt)) = false := g3
        rw [e1, e2]
        exact ⟨_, _, _, g, rfl, rfl, hM⟩
      | true =>
        have e1 : (decide ((0 : Int32).toInt ≤ p3.toInt) && decide (p3.toInt ≤ (12 : Int32).toInt)) = true := g3
        have e2 : (decide ((0 : Int64).toInt ≤ p3.toInt) && decide (p3.toInt ≤ (12 : Int64).toInt)) = true := g3
        rw [e1, e2]
        cases g4 : ins p4 0 1 with
        | false =>
          have e1 : (decide ((0 : Int32).toInt ≤ p4.toInt) && decide (p4.toInt ≤ (1 : Int32).toInt)) = false := g4
          have e2 : (decide ((0 : Int64).toInt ≤ p4.toInt) && decide (p4.toInt ≤ (1 : Int64).toInt)) = false := g4
          rw [e1, e2]
          exact ⟨_, _, _, g, rfl, rfl, hM⟩
        | true =>
          have e1 : (decide ((0 : Int32).toInt ≤ p4.toInt) && decide (p4.toInt ≤ (1 : Int32).toInt)) = true := g4
          have e2 : (decide ((0 : Int64).toInt ≤ p4.toInt) && decide (p4.toInt ≤ (1 : Int64).toInt)) = true := g4
          rw [e1, e2]
          obtain ⟨k, hk, rfl⟩ := isl_of g1
          obtain ⟨w, hw, rfl⟩ := ins_of (b := 10) g2
          obtain ⟨m, hm, rfl⟩ := ins_of (b := 12) g3
          simp only [itf]
          obtain ⟨f2, u, k1, k2⟩ := s_dustM h hV hN (m := m) (w := w) hM hy (show k < 9 by omega) hm hw
          rw [s_cloud h hV hX (N := N) (by omega) hy (by omega) hm hw, rs_b2_some, s_at2, rs_b1_some, if_neg (nI_in (c := 9 * 2 + k) (N := 36) (by omega) (by omega)), nI_clamp (n := 9 * 2 + k) (by omega), hM k (by omega) 2 (by omega), rs_lt_eq, k1, rs_b3_some, rs_b1_some, if_neg (nI_in (c := 9 * 2 + k) (N := 36) (by omega) (by omega)), nI_clamp (n := 9 * 2 + k) (by omega)]
          have hle := GX_le (q := fun i => !sd_dark D k (y + i)) (g := V 0 k) (e := V 1 k) (c := V 3 k) (m := m) hw m (V 2 k)
          have hL := LX_le (fun i => !sd_dark D k (y + i)) m m
          generalize hA : GX (fun i => !sd_dark D k (y + i)) (V 0 k) (V 1 k) (V 3 k) w m m (V 2 k) = A at hle ⊢
          generalize hB : LX (fun i => !sd_dark D k (y + i)) m m = B at hle hL ⊢
          have p12 : (10 : Nat) ^ m ≤ 10 ^ 12 := Nat.pow_le_pow_right (by omega) hm
          have pB : (10 : Nat) ^ B ≤ 10 ^ 12 := Nat.pow_le_pow_right (by omega) (by omega)
          have c12 : (10 : Nat) ^ 12 < 2 ^ 45 := by decide
          have c45 : (2 : Nat) ^ 45 < 2 ^ 63 := by decide
          have hBp : 0 < 10 ^ B := Nat.pow_pos (by omega)
          have hT : 0 < 10 ^ (m - B) := Nat.pow_pos (by omega)
          have eT : (10 : Nat) ^ m = 10 ^ B * 10 ^ (m - B) := by rw [← Nat.pow_add, show B + (m - B) = m by omega]
          have hAT : A * 10 ^ (m - B) ≤ 10 ^ m := by rw [eT]; exact Nat.mul_le_mul_right _ hle
          have hgp : 0 < Nat.gcd A (10 ^ B) := Nat.gcd_pos_of_pos_right _ hBp
          have hgl : Nat.gcd A (10 ^ B) ≤ 10 ^ B := Nat.gcd_le_right _ hBp
          have hne : ¬ lN (Nat.gcd A (10 ^ B)) = 0 := fun e => by
            have := (pk_lEQ (a := Nat.gcd A (10 ^ B)) (b := 0) (by omega) (by omega)).mp e
            omega
          have gM : Nat.gcd (10 ^ m) (A * 10 ^ (m - B)) = Nat.gcd A (10 ^ B) * 10 ^ (m - B) := by
            rw [Nat.gcd_comm, eT, Nat.gcd_mul_right]
          have hgM2 : 0 < Nat.gcd A (10 ^ B) * 10 ^ (m - B) := Nat.mul_pos hgp hT
          have hgM3 : Nat.gcd A (10 ^ B) * 10 ^ (m - B) ≤ 10 ^ m := by rw [eT]; exact Nat.mul_le_mul_right _ hgl
          have hneM : ¬ lN (Nat.gcd A (10 ^ B) * 10 ^ (m - B)) = 0 := fun e => by
            have := (pk_lEQ (a := Nat.gcd A (10 ^ B) * 10 ^ (m - B)) (b := 0) (by omega) (by omega)).mp e
            omega
          have lo := gm_run 45 (10 ^ m) (A * 10 ^ (m - B)) N (by omega) (by omega) (by omega) (by omega)
          rw [s_gcd (by omega) (by omega) (by omega), rs_b1_some]
          unfold f_X11_lowest f_X10_cut_ rs_l2
          rw [lo, rs_b1_some, gM, if_neg (fun e => hne ((lg_cmp_eq _ _).mp e)), if_neg hne, if_neg (fun e => hne ((lg_cmp_eq _ _).mp e)), if_neg hne, if_neg hneM, if_neg hneM, pk_lDiv (by omega) (by omega) (by omega), pk_lDiv (by omega) (by omega) (by omega), pk_lDiv (by omega) (by omega) (by omega), pk_lDiv (by omega) (by omega) (by omega), Nat.mul_div_mul_right _ _ hT, eT, Nat.mul_div_mul_right _ _ hT]
          have hback := MS_up k2 (j := 2) (k := k) (v := V 2 k) (by omega) (by omega)
          rw [vup_vup, vup_id] at hback
          by_cases c4 : p4 = 0
          · rw [if_pos c4, if_pos c4]
            exact ⟨_, _, _, _, rfl, rfl, hback⟩
          · rw [if_neg c4, if_neg c4]
            exact ⟨_, _, _, _, rfl, rfl, hback⟩
