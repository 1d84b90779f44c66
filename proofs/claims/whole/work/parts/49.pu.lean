-- dust
def nx (H : Nat → Nat) (e c t : Nat) : Nat := if e ≤ t then H (if t - e ≤ c then t - e else c) else 0
def GX (q : Nat → Bool) (g e c w m : Nat) : Nat → Nat → Nat
  | 0, _ => 1
  | k + 1, s => if q (m - 1 - k) then (10 - w) * nx (GX q g e c w m k) e c (s + g) + w * nx (GX q g e c w m k) e c s else nx (GX q g e c w m k) e c s
def LX (q : Nat → Bool) (m : Nat) : Nat → Nat
  | 0 => 0
  | k + 1 => LX q m k + if q (m - 1 - k) then 1 else 0
theorem GX_s (q : Nat → Bool) (g e c w m k s : Nat) : GX q g e c w m (k + 1) s = if q (m - 1 - k) then (10 - w) * nx (GX q g e c w m k) e c (s + g) + w * nx (GX q g e c w m k) e c s else nx (GX q g e c w m k) e c s := rfl
theorem LX_s (q : Nat → Bool) (m k : Nat) : LX q m (k + 1) = LX q m k + if q (m - 1 - k) then 1 else 0 := rfl
theorem LX_le (q : Nat → Bool) (m : Nat) : ∀ k, LX q m k ≤ k
  | 0 => Nat.le_refl _
  | k + 1 => by
    rw [LX_s]
    have := LX_le q m k
    split <;> omega
theorem nx_le {H : Nat → Nat} {B : Nat} (h : ∀ s, H s ≤ B) (e c t : Nat) : nx H e c t ≤ B := by
  unfold nx
  split
  · exact h _
  · exact Nat.zero_le _
theorem GX_le {q : Nat → Bool} {g e c w m : Nat} (hw : w ≤ 10) : ∀ k s, GX q g e c w m k s ≤ 10 ^ LX q m k
  | 0, s => Nat.le_refl _
  | k + 1, s => by
    have h := GX_le (q := q) (g := g) (e := e) (c := c) (m := m) hw k
    have a1 := nx_le h e c (s + g)
    have a2 := nx_le h e c s
    rw [GX_s, LX_s]
    cases q (m - 1 - k)
    · exact a2
    · show (10 - w) * _ + w * _ ≤ 10 ^ (LX q m k + 1)
      have b1 := Nat.mul_le_mul_left (10 - w) a1
      have b2 := Nat.mul_le_mul_left w a2
      have b3 : (10 - w) * 10 ^ LX q m k + w * 10 ^ LX q m k = 10 ^ (LX q m k + 1) := by
        rw [← Nat.add_mul, show 10 - w + w = 10 by omega, Nat.pow_succ, Nat.mul_comm]
      omega
theorem sm_z {g : Nat → Nat} : ∀ m, (∀ i, i < m → g i = 0) → sm g m = 0
  | 0, _ => rfl
  | m + 1, h => by
    show sm g m + g m = 0
    rw [sm_z m (fun i hi => h i (by omega)), h m (by omega)]
theorem sm_up {t v : Nat} {th H : Nat → Nat} : ∀ n, t < n → sm (fun s => (if s = t then th s + v else th s) * H s) n = sm (fun s => th s * H s) n + v * H t
  | 0, h => by omega
  | n + 1, h => by
    show sm (fun s => (if s = t then th s + v else th s) * H s) n + (if n = t then th n + v else th n) * H n = sm (fun s => th s * H s) n + th n * H n + v * H t
    by_cases c : n = t
    · subst c
      rw [if_pos rfl, Nat.add_mul, sm_cong (g := fun s => (if s = n then th s + v else th s) * H s) (h := fun s => th s * H s) n (fun i hi => by rw [if_neg (by omega)])]
      omega
    · rw [if_neg c, sm_up n (by omega)]
      omega
theorem l_z : (0 : Int64) = lN 0 := rfl
theorem s_spread {V : Nat → Nat → Nat} (hV : vok V) {f : Nat → Int32} (hX : XS V f) {k N w : Nat} (hk : k < 9) (hN : 200 < N) (hw : w ≤ 10) (l : Bool) (H : Nat → Nat) {a b : Nat → Int64} {na nb : Nat → Nat} (ha : ∀ s, s < 100 → a s = lN (na s)) (hb : ∀ s, s < 100 → b s = lN (nb s)) :
    ∃ b', ∃ nb' : Nat → Nat, f_X2_spread N 100 100 (nI k) (b2 l) (nI w) f a b = some b' ∧ (∀ s, s < 100 → b' s = lN (nb' s)) ∧ sm (fun s => nb' s * H s) 100 = sm (fun s => nb s * H s) 100 + w * sm (fun s => na s * nx H (V 1 k) (V 3 k) (s + if l then V 0 k else 0)) 100 := by
  obtain ⟨v1, v2, v3, v4⟩ := hV k hk
  unfold f_X2_spread
  rw [s_of0 hX hk, s_of1 hX hk, s_of3 hX hk]
  have e0 : (if b2 l = 0 then some 0 else rs_b1 (some (nI (V 0 k))) (fun (x32 : Int32) => some x32)) = some (nI (if l then V 0 k else 0)) := by
    cases l <;> rfl
  rw [e0, rs_b1_some, rs_b1_some, rs_lt_eq, rs_b1_some]
  generalize hG : (if l then V 0 k else 0) = G
  have hG2 : G ≤ 20 := by rw [← hG]; split <;> omega
  unfold rs_l2
  obtain ⟨r, q1, q2⟩ := rs_loop_inv (body := fun s : (Nat → Int64) × Int32 => f_X2_spread_L35 100 a (nI G - nI (V 1 k)) 100 (nI (V 3 k)) (nI w) s.1 s.2) (fun j s => s.2 = nI j ∧ ∃ nb' : Nat → Nat, (∀ t, t < 100 → s.1 t = lN (nb' t)) ∧ sm (fun s => nb' s * H s) 100 = sm (fun s => nb s * H s) 100 + w * sm (fun s => na s * nx H (V 1 k) (V 3 k) (s + G)) j) (fun r => ∃ nb' : Nat → Nat, (∀ t, t < 100 → r t = lN (nb' t)) ∧ sm (fun s => nb' s * H s) 100 = sm (fun s => nb s * H s) 100 + w * sm (fun s => na s * nx H (V 1 k) (V 3 k) (s + G)) 100) 100 (by
    rintro j ⟨u, x⟩ hj ⟨k1, nb', k2, k3⟩
    dsimp only at k1 k2 ⊢
    subst k1
    unfold f_X2_spread_L35
    by_cases cc : 100 ≤ j
    · have : j = 100 := by omega
      subst this
      exact Or.inr ⟨u, rfl, nb', k2, k3⟩
    · rw [if_neg (show ¬ Int32.ofNat 100 ≤ nI j from nI_ge (b := 100) (by omega) (by omega)), if_neg (nI_in (c := j) (N := 100) (by omega) (by omega)), nI_clamp (n := j) (by omega), ha j (by omega), nI_1]
      have es : sm (fun s => na s * nx H (V 1 k) (V 3 k) (s + G)) (j + 1) = sm (fun s => na s * nx H (V 1 k) (V 3 k) (s + G)) j + na j * nx H (V 1 k) (V 3 k) (j + G) := rfl
      have eadd : nI j + (nI G - nI (V 1 k)) = nI (j + G) - nI (V 1 k) := by rw [← nI_add]; grind
      rw [eadd]
      have ht : (nI (j + G) - nI (V 1 k)).toInt = ((j + G : Nat) : Int) - (V 1 k : Nat) := pk_sub_toInt (by omega) (by omega)
      have t0 : (0 : Int32).toInt = 0 := rfl
      by_cases cz : lg_cmp (lN (na j)) 0 = 0
      · rw [if_pos cz, rs_b1_some]
        have hz : lN (na j) = 0 := (lg_cmp_eq _ _).mp cz
        by_cases cl : V 1 k ≤ j + G
        · refine Or.inl ⟨_, rfl, ⟨rfl, fun s => if s = (if j + G - V 1 k ≤ V 3 k then j + G - V 1 k else V 3 k) then nb' s + na j * w else nb' s, ?_, ?_⟩, by omega⟩
          · intro t ht2
            dsimp only
            by_cases c6 : t = (if j + G - V 1 k ≤ V 3 k then j + G - V 1 k else V 3 k)
            · rw [if_pos c6, ← lN_add, ← lN_mul, hz, k2 t ht2]
              grind
            · rw [if_neg c6]
              exact k2 t ht2
          · rw [sm_up 100 (by split <;> omega), k3, es]
            have : nx H (V 1 k) (V 3 k) (j + G) = H (if j + G - V 1 k ≤ V 3 k then j + G - V 1 k else V 3 k) := by
              unfold nx
              rw [if_pos cl]
            rw [this, Nat.mul_add, Nat.mul_comm (na j) w, Nat.mul_assoc, Nat.add_assoc]
        · refine Or.inl ⟨_, rfl, ⟨rfl, nb', k2, ?_⟩, by omega⟩
          have : nx H (V 1 k) (V 3 k) (j + G) = 0 := by
            unfold nx
            rw [if_neg cl]
          rw [es, this, k3, Nat.mul_zero, Nat.add_zero]
      · rw [if_neg cz]
        by_cases cl : V 1 k ≤ j + G
        · rw [if_neg (by rw [pn_lt, ht, t0]; omega), if_neg (gI (c := j) (N := 100) (by omega) (by omega)), pk_sub (by omega)]
          have et : (if nI (V 3 k) < nI (j + G - V 1 k) then nI (V 3 k) else nI (j + G - V 1 k)) = nI (if j + G - V 1 k ≤ V 3 k then j + G - V 1 k else V 3 k) := by
            by_cases c5 : j + G - V 1 k ≤ V 3 k
            · rw [if_neg (nI_nlt c5 (by omega)), if_pos c5]
            · rw [if_pos (nI_lt (by omega) (by omega)), if_neg c5]
          rw [et]
          have hlt : (if j + G - V 1 k ≤ V 3 k then j + G - V 1 k else V 3 k) < 100 := by split <;> omega
          rw [nI_l (n := w) (by omega), lN_mul, s_addL u _ (by omega) hlt, rs_b1_some, rs_b1_some]
          refine Or.inl ⟨_, rfl, ⟨rfl, fun s => if s = (if j + G - V 1 k ≤ V 3 k then j + G - V 1 k else V 3 k) then nb' s + na j * w else nb' s, ?_, ?_⟩, by omega⟩
          · intro t ht2
            dsimp only
            by_cases c6 : t = (if j + G - V 1 k ≤ V 3 k then j + G - V 1 k else V 3 k)
            · rw [if_pos c6, ← c6, pk_uLs, k2 t ht2, lN_add]
            · rw [if_neg c6, pk_uLn c6]
              exact k2 t ht2
          · rw [sm_up 100 hlt, k3, es]
            have : nx H (V 1 k) (V 3 k) (j + G) = H (if j + G - V 1 k ≤ V 3 k then j + G - V 1 k else V 3 k) := by
              unfold nx
              rw [if_pos cl]
            rw [this, Nat.mul_add, Nat.mul_comm (na j) w, Nat.mul_assoc, Nat.add_assoc]
        · rw [if_pos (by rw [pn_lt, ht, t0]; omega), rs_b1_some]
          refine Or.inl ⟨_, rfl, ⟨rfl, nb', k2, ?_⟩, by omega⟩
          have : nx H (V 1 k) (V 3 k) (j + G) = 0 := by
            unfold nx
            rw [if_neg cl]
          rw [es, this, k3, Nat.mul_zero, Nat.add_zero]) N 0 (b, 0) (by omega) (by omega) ⟨rfl, nb, hb, by
      have e0 : sm (fun s => na s * nx H (V 1 k) (V 3 k) (s + G)) 0 = 0 := rfl
      rw [e0, Nat.mul_zero, Nat.add_zero]⟩
  obtain ⟨nb', w1, w2⟩ := q2
  rw [q1]
  exact ⟨r, nb', rfl, w1, w2⟩
theorem sm_lin {u v : Nat → Nat} {a b : Nat} : ∀ n, a * sm u n + b * sm v n = sm (fun s => a * u s + b * v s) n
  | 0 => by simp [sm]
  | n + 1 => by
    show a * (sm u n + u n) + b * (sm v n + v n) = sm (fun s => a * u s + b * v s) n + (a * u n + b * v n)
    rw [← sm_lin n, Nat.mul_add, Nat.mul_add]
    omega
theorem s_cloud {D : Nat → Nat} (h : sd_ok D) {V : Nat → Nat → Nat} (hV : vok V) {f : Nat → Int32} (hX : XS V f) {N : Nat} (hN : 200 < N) {y k m w : Nat} (hy : y < 2 ^ 22) (hk : k < 9) (hm : m ≤ 12) (hw : w ≤ 10) (a b : Nat → Int64) :
    f_X2_pass N (nI k) (nI w) (nI m) a (nI y) f b (nI (D 0)) (nI (D 1)) (nI (D 2)) (nI (D 3)) (nI (D 4)) (nI (D 5)) (nI (D 6)) = some (lN (GX (fun i => !sd_dark D k (y + i)) (V 0 k) (V 1 k) (V 3 k) w m m (V 2 k)), lN (10 ^ LX (fun i => !sd_dark D k (y + i)) m m)) := by
  obtain ⟨v1, v2, v3, v4⟩ := hV k hk
  generalize hq : (fun i => !sd_dark D k (y + i)) = q
  have hqi : ∀ i, q i = !sd_dark D k (y + i) := fun i => by rw [← hq]
  unfold f_X2_pass
  obtain ⟨c, c1, c2⟩ := s_clearL (n := 100) (N := N) (by omega) (by omega) a
  rw [c1, rs_b1_some, s_of2 hX hk, rs_b1_some, s_addL c _ (by omega) (by omega), rs_b1_some, c2 (V 2 k) (by omega)]
  unfold rs_l4
  obtain ⟨r, q1, q2⟩ := rs_loop_inv (body := fun s : (Nat → Int64) × (Nat → Int64) × Int64 × Int32 => f_X2_pass_L40 N (nI m) (nI k) (nI y) (nI (D 0)) (nI (D 1)) (nI (D 2)) (nI (D 3)) (nI (D 4)) (nI (D 5)) (nI (D 6)) (nI w) f s.1 s.2.1 s.2.2.1 s.2.2.2) (fun i s => s.2.2.2 = nI i ∧ ∃ (na : Nat → Nat) (z : Nat), (∀ t, t < 100 → s.1 t = lN (na t)) ∧ s.2.2.1 = lN (10 ^ z) ∧ z + LX q m (m - i) = LX q m m ∧ sm (fun t => na t * GX q (V 0 k) (V 1 k) (V 3 k) w m (m - i) t) 100 = GX q (V 0 k) (V 1 k) (V 3 k) w m m (V 2 k)) (fun r => ∃ (na : Nat → Nat), (∀ t, t < 100 → r.1 t = lN (na t)) ∧ r.2.2 = lN (10 ^ LX q m m) ∧ sm na 100 = GX q (V 0 k) (V 1 k) (V 3 k) w m m (V 2 k)) m (by
    rintro i ⟨u, v, x1, x2⟩ hi ⟨k1, na, z, k2, k3, k4, k5⟩
    dsimp only at k1 k2 k3 ⊢
    subst k1 k3
    unfold f_X2_pass_L40
    by_cases cc : m ≤ i
    · have : i = m := by omega
      subst this
      rw [if_pos (nI_le cc (by omega))]
      rw [Nat.sub_self] at k4 k5
      have e : z = LX q i i := k4
      refine Or.inr ⟨_, rfl, na, k2, by dsimp only; rw [e], ?_⟩
      rw [← k5]
      exact sm_cong _ (fun t _ => (Nat.mul_one _).symm)
    · obtain ⟨d, d1, d2⟩ := s_clearL (n := 100) (N := N) (by omega) (by omega) v
      rw [if_neg (nI_ge (by omega) (by omega)), d1, rs_b1_some, nI_add, s_isDark h (by omega) (by omega), rs_b1_some, nI_1]
      have em : m - i = (m - (i + 1)) + 1 := by omega
      have ei : m - 1 - (m - (i + 1)) = i := by omega
      rw [em, LX_s, ei] at k4
      have k6 : sm (fun t => na t * (if q i then (10 - w) * nx (GX q (V 0 k) (V 1 k) (V 3 k) w m (m - (i + 1))) (V 1 k) (V 3 k) (t + V 0 k) + w * nx (GX q (V 0 k) (V 1 k) (V 3 k) w m (m - (i + 1))) (V 1 k) (V 3 k) t else nx (GX q (V 0 k) (V 1 k) (V 3 k) w m (m - (i + 1))) (V 1 k) (V 3 k) t)) 100 = GX q (V 0 k) (V 1 k) (V 3 k) w m m (V 2 k) := by
        rw [← k5]
        refine sm_cong _ (fun t _ => ?_)
        rw [em, GX_s, ei]
      have hz0 : ∀ H : Nat → Nat, sm (fun s => (fun _ => 0) s * H s) 100 = 0 := fun H => sm_z _ (fun j _ => by dsimp only; rw [Nat.zero_mul])
      have hqd := hqi i
      cases hd : sd_dark D k (y + i) with
      | true =>
        rw [hd] at hqd
        have hqf : q i = false := hqd
        rw [hqf] at k4 k6
        obtain ⟨b', nb', w1, w2, w3⟩ := s_spread hV hX hk hN (w := 1) (by omega) false (GX q (V 0 k) (V 1 k) (V 3 k) w m (m - (i + 1))) k2 (nb := fun _ => 0) d2
        have w1' : f_X2_spread N 100 100 (nI k) 0 1 f u d = some b' := w1
        rw [if_neg (show ¬ b2 true = 0 by decide), w1', rs_b1_some, rs_b2_some]
        refine Or.inl ⟨_, rfl, ⟨rfl, nb', z, w2, rfl, k4, ?_⟩, by omega⟩
        rw [w3, hz0, Nat.zero_add, Nat.one_mul, ← k6]
        exact sm_cong _ (fun t _ => rfl)
      | false =>
        rw [hd] at hqd
        have hqt : q i = true := hqd
        rw [hqt] at k4 k6
        obtain ⟨b', nb', w1, w2, w3⟩ := s_spread hV hX hk hN (w := 10 - w) (by omega) true (GX q (V 0 k) (V 1 k) (V 3 k) w m (m - (i + 1))) k2 (nb := fun _ => 0) d2
        obtain ⟨b'', nb'', w4, w5, w6⟩ := s_spread hV hX hk hN (w := w) (by omega) false (GX q (V 0 k) (V 1 k) (V 3 k) w m (m - (i + 1))) k2 w2
        have w1' : f_X2_spread N 100 100 (nI k) 1 (nI (10 - w)) f u d = some b' := w1
        have w4' : f_X2_spread N 100 100 (nI k) 0 (nI w) f u b' = some b'' := w4
        rw [if_pos (show b2 false = 0 from rfl), show (10 : Int32) - nI w = nI (10 - w) from pk_sub (a := 10) (by omega), w1', rs_b1_some, w4', rs_b1_some, rs_lt_eq, rs_b2_some]
        refine Or.inl ⟨_, rfl, ⟨rfl, nb'', z + 1, w5, ?_, ?_, ?_⟩, by omega⟩
        · dsimp only
          rw [show (10 : Int64) = lN 10 from rfl, lN_mul, Nat.pow_succ]
        · have : z + (LX q m (m - (i + 1)) + 1) = LX q m m := k4
          omega
        · rw [w6, w3, hz0, Nat.zero_add, sm_lin, ← k6]
          refine sm_cong _ (fun t _ => ?_)
          show (10 - w) * (na t * nx _ (V 1 k) (V 3 k) (t + V 0 k)) + w * (na t * nx _ (V 1 k) (V 3 k) (t + 0)) = na t * ((10 - w) * nx _ (V 1 k) (V 3 k) (t + V 0 k) + w * nx _ (V 1 k) (V 3 k) t)
          rw [Nat.mul_add, Nat.mul_left_comm, Nat.mul_left_comm w]
          rfl) N 0 (vp_updL c (V 2 k) (lN 0 + 1), b, 1, 0) (by omega) (by omega) ⟨rfl, (fun t => if t = V 2 k then 0 + 1 else 0), 0, (fun t ht => by
        dsimp only
        by_cases c5 : t = V 2 k
        · subst c5
          rw [pk_uLs, if_pos rfl]; rfl
        · rw [pk_uLn c5, if_neg c5]
          exact c2 t ht), rfl, by rw [Nat.sub_zero, Nat.zero_add], by
        rw [Nat.sub_zero]
        have := sm_up (t := V 2 k) (v := 1) (th := fun _ => 0) (H := fun t => GX q (V 0 k) (V 1 k) (V 3 k) w m m t) 100 (by omega)
        rw [this, sm_z _ (fun j _ => Nat.zero_mul _), Nat.zero_add, Nat.one_mul]⟩
  obtain ⟨r1, r2, r3⟩ := r
  obtain ⟨na, w1, w2, w3⟩ := q2
  dsimp only at w1 w2
  subst w2
  rw [q1, rs_b3_some]
  have e : rs_l2 (f_X2_pass_L156 r1) N 0 0 = some (lN (sm na 100)) := by
    unfold rs_l2
    refine rs_loop_run (fun j => (lN (sm na j), nI j)) 100 rfl (by omega) ?_ rfl
    intro j hj
    show f_X2_pass_L156 _ (lN (sm na j)) (nI j) = some (Sum.inl (lN (sm na j + na j), nI (j + 1)))
    unfold f_X2_pass_L156
    rw [if_neg (show ¬ (100 : Int32) ≤ nI j from nI_ge (b := 100) (by omega) (by omega)), if_neg (nI_in (c := j) (N := 100) (by omega) (by omega)), nI_clamp (n := j) (by omega), w1 j hj, rs_lt_eq, nI_1, lN_add]
  rw [e, w3]
  rfl
