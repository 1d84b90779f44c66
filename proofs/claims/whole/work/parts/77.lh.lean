theorem KI.to {K K2 : Nat → Int32} {b : Nat} {D : Nat → Nat} {V : Nat → Nat → Nat} {y c : Nat} {sl sy sc tl ty tc : Nat → Int32} (h : KI K b D V y c sl sy sc) (hK : ∀ q, b ≤ q → q < b + 69 → K2 q = K q) (h1 : ∀ j, j < 8 → sl j = tl j) (h2 : ∀ j, j < 8 → sy j = ty j) (h3 : ∀ j, j < 8 → sc j = tc j) : KI K2 b D V y c tl ty tc := by
  obtain ⟨a1, a2, a3, a4, a5⟩ := h
  refine ⟨fun i hi => ?_, ?_, ?_, fun k hk j hj => ?_, fun i hi => ⟨?_, ?_, ?_⟩⟩
  · rw [hK _ (by omega) (by omega)]; exact a1 i hi
  · rw [hK _ (by omega) (by omega)]; exact a2
  · rw [hK _ (by omega) (by omega)]; exact a3
  · show K2 (b + 9 + (9 * j + k)) = _
    rw [hK _ (by omega) (by omega)]; exact a4 k hk j hj
  · rw [hK _ (by omega) (by omega), (a5 i hi).1]; exact h1 i hi
  · rw [hK _ (by omega) (by omega), (a5 i hi).2.1]; exact h2 i hi
  · rw [hK _ (by omega) (by omega), (a5 i hi).2.2]; exact h3 i hi
theorem rs_IM.other {G : rs_G} {K K2 kb kb2 : Nat → Int32} {fi fi2 : Nat → Option Nat} {Y o : Nat} {T : va_W} (h : rs_IM G K kb fi Y o T) (hK : ∀ q, 80 * o ≤ q → q < 80 * o + 69 → K2 q = K q) (hb : kb2 o = kb o) (hf : fi2 o = fi o) : rs_IM G K2 kb2 fi2 Y o T := by
  rcases h with ⟨h1, h2, h3⟩ | ⟨a, E, U, y, cn, f, xl, xy, xc, h1, h2, h3, h4, h5, h6, h7, h8, h9⟩
  · exact Or.inl ⟨hf.trans h1, hb.trans h2, h3⟩
  · exact Or.inr ⟨a, E, U, y, cn, f, xl, xy, xc, hf.trans h1, hb.trans h2, h3, h4, h5, h6, h7, h8, h9.to hK (fun _ _ => rfl) (fun _ _ => rfl) (fun _ _ => rfl)⟩
theorem s_in01 {z : Nat} (hz : z < 2) : f_X11_in ((nI z).toInt64) 0 1 = some 1 := by
  rcases (show z = 0 ∨ z = 1 by omega) with rfl | rfl <;> rfl
theorem s_in01n {p1 : Int32} (h : ¬ vp_in p1 2) : f_X11_in (p1.toInt64) 0 1 = some 0 := by
  rw [s_in]
  have h0 : (0 : Int64).toInt = 0 := rfl
  have h1 : (1 : Int64).toInt = 1 := rfl
  have h2 : (0 : Int32).toInt = 0 := rfl
  have h3 : (2 : Int32).toInt = 2 := rfl
  rw [h0, h1]
  have hb : (decide ((0 : Int) ≤ p1.toInt) && decide (p1.toInt ≤ 1)) = false := by
    rcases rs_in2n h with z | z
    · have := (pn_lt _ _).mp z
      rw [h2] at this
      have hq : ¬ (0 : Int) ≤ p1.toInt := by omega
      simp [hq]
    · have := (pn_le _ _).mp z
      rw [h3] at this
      have hq : ¬ p1.toInt ≤ 1 := by omega
      simp [hq]
  rw [hb]
  rfl
theorem s_80 {z : Nat} (hz : z < 2) : (80 : Int32) * nI z = nI (80 * z) := by
  rcases (show z = 0 ∨ z = 1 by omega) with rfl | rfl <;> rfl
theorem rs_b15_some {a1 a2 a3 a4 a5 a6 a7 a8 a9 a10 a11 a12 a13 a14 a15 ζ : Type} (x1 : a1) (x2 : a2) (x3 : a3) (x4 : a4) (x5 : a5) (x6 : a6) (x7 : a7) (x8 : a8) (x9 : a9) (x10 : a10) (x11 : a11) (x12 : a12) (x13 : a13) (x14 : a14) (x15 : a15) (k : a1 → a2 → a3 → a4 → a5 → a6 → a7 → a8 → a9 → a10 → a11 → a12 → a13 → a14 → a15 → Option ζ) : rs_b15 (some (x1, x2, x3, x4, x5, x6, x7, x8, x9, x10, x11, x12, x13, x14, x15)) k = k x1 x2 x3 x4 x5 x6 x7 x8 x9 x10 x11 x12 x13 x14 x15 := rfl
theorem e_imgNo {p1 : Int32} (h : ¬ vp_in p1 2) (N : Nat) (d0 d1 d2 d3 d4 d5 d6 y c t1 t2 : Int32) (K g sl sy sc kb : Nat → Int32) : f_X11_image N p1 d0 d1 d2 d3 d4 d5 d6 y c t1 t2 K g sl sy sc kb = some (-2, d0, d1, d2, d3, d4, d5, d6, y, c, t1, t2, K, g, sl, sy, sc, kb) := by
  unfold f_X11_image
  rw [s_in01n h]
  rfl
theorem e_resNo {p1 : Int32} (h : ¬ vp_in p1 2) (N : Nat) (d0 d1 d2 d3 d4 d5 d6 y c t1 t2 : Int32) (kb K g sl sy sc : Nat → Int32) : f_X11_restore N p1 d0 d1 d2 d3 d4 d5 d6 y c t1 t2 kb K g sl sy sc = some (-2, d0, d1, d2, d3, d4, d5, d6, y, c, t1, t2, K, g, sl, sy, sc) := by
  unfold f_X11_restore
  rw [s_in01n h]
  rfl
theorem e_resNone {z : Nat} (hz : z < 2) (N : Nat) (d0 d1 d2 d3 d4 d5 d6 y c t1 t2 : Int32) (kb K g sl sy sc : Nat → Int32) (hk : kb z = 0) : f_X11_restore N (nI z) d0 d1 d2 d3 d4 d5 d6 y c t1 t2 kb K g sl sy sc = some (-3, d0, d1, d2, d3, d4, d5, d6, y, c, t1, t2, K, g, sl, sy, sc) := by
  unfold f_X11_restore
  rw [s_in01 hz, rs_b1_some, if_neg (by decide), if_neg (nI_in hz (by decide)), nI_clamp (by omega), if_pos hk]
theorem e_imgM {D : Nat → Nat} {V : Nat → Nat → Nat} {g : Nat → Int32} (hM : MS V g) {z N : Nat} (hz : z < 2) (hN : 100 < N) (y cn : Nat) (t1 t2 : Int32) (K sl sy sc kb : Nat → Int32) :
    ∃ K2, f_X11_image N (nI z) (nI (D 0)) (nI (D 1)) (nI (D 2)) (nI (D 3)) (nI (D 4)) (nI (D 5)) (nI (D 6)) (nI y) (nI cn) t1 t2 K g sl sy sc kb = some (1, nI (D 0), nI (D 1), nI (D 2), nI (D 3), nI (D 4), nI (D 5), nI (D 6), nI y, nI cn, nI (80 * z + 69), 1, K2, g, sl, sy, sc, upd kb z 1) ∧ KI K2 (80 * z) D V y cn sl sy sc ∧ ∀ q, q < 80 * z ∨ 80 * z + 69 ≤ q → K2 q = K q := by
  obtain ⟨K2, a1, a2, a3⟩ := s_imgM (D := D) hM (b := 80 * z) (y := y) (c := cn) (N := N) (by omega) hN K sl sy sc
  refine ⟨K2, ?_, a2, a3⟩
  unfold f_X11_image
  rw [s_in01 hz, s_80 hz, rs_b1_some, if_neg (by decide), rs_lt_eq, a1, rs_b15_some, if_neg (nI_in hz (by decide)), nI_clamp (by omega)]
  first | done | rfl
theorem e_resM {E : Nat → Nat} {U : Nat → Nat → Nat} {z y2 c2 N : Nat} {K tl ty tc kb : Nat → Int32} (hz : z < 2) (hk : kb z = 1) (hK : KI K (80 * z) E U y2 c2 tl ty tc) (hN : 100 < N) (d0 d1 d2 d3 d4 d5 d6 y c t1 t2 : Int32) (g sl sy sc : Nat → Int32) :
    ∃ g2 sl2 sy2 sc2, f_X11_restore N (nI z) d0 d1 d2 d3 d4 d5 d6 y c t1 t2 kb K g sl sy sc = some (1, nI (E 0), nI (E 1), nI (E 2), nI (E 3), nI (E 4), nI (E 5), nI (E 6), nI y2, nI c2, nI (80 * z + 69), 0, K, g2, sl2, sy2, sc2) ∧ MS U g2 ∧ ∀ i, i < 8 → sl2 i = tl i ∧ sy2 i = ty i ∧ sc2 i = tc i := by
  obtain ⟨g2, sl2, sy2, sc2, a1, a2, a3⟩ := s_resM hK (by omega) hN d0 d1 d2 d3 d4 d5 d6 y c g sl sy sc
  refine ⟨g2, sl2, sy2, sc2, ?_, a2, a3⟩
  unfold f_X11_restore
  rw [s_in01 hz, s_80 hz, rs_b1_some, if_neg (by decide), if_neg (nI_in hz (by decide)), nI_clamp (by omega), hk, if_neg (by decide), rs_lt_eq, a1, rs_b15_some]
  first | done | rfl
theorem rs_swap_at {L a b : va_W} {i : Nat} {q : Nat × va_E} (h : (L ++ (b ++ a))[i]? = some q) : ∃ j : Nat, (L ++ (a ++ b))[j]? = some q ∧ ((i < L.length ∧ j = i) ∨ (L.length ≤ i ∧ i < L.length + b.length ∧ j = i + a.length) ∨ (L.length + b.length ≤ i ∧ i < L.length + b.length + a.length ∧ j + b.length = i)) := by
  rcases rs_app_at h with ⟨z, h⟩ | ⟨z, h⟩
  · refine ⟨i, ?_, Or.inl ⟨z, rfl⟩⟩
    rw [List.getElem?_append_left z]
    exact h
  · rcases rs_app_at h with ⟨z2, h⟩ | ⟨z2, h⟩
    · refine ⟨i + a.length, ?_, Or.inr (Or.inl ⟨z, by omega, rfl⟩)⟩
      rw [List.getElem?_append_right (by omega), List.getElem?_append_right (by omega)]
      have e : i + a.length - L.length - a.length = i - L.length := by omega
      rw [e]
      exact h
    · have hlt := (List.getElem?_eq_some_iff.mp h).1
      refine ⟨i - b.length, ?_, Or.inr (Or.inr ⟨by omega, by omega, by omega⟩)⟩
      rw [List.getElem?_append_right (by omega)]
      have e : i - b.length - L.length = i - L.length - b.length := by omega
      rw [e, List.getElem?_append_left hlt]
      exact h
theorem rs_swapP {D : va_G} {cl : List vw_C} {H : Heap} (L a b : va_W) (h : va_P D cl (L ++ (a ++ b)) H) : va_P D cl (L ++ (b ++ a)) H := fun i q hi => by
  obtain ⟨j, hj, -⟩ := rs_swap_at hi
  exact h j q hj
theorem rs_swapD {A : Nat → Prop} (L a b : va_W) (h : va_D A (L ++ (a ++ b))) : va_D A (L ++ (b ++ a)) := by
  refine ⟨fun i j x y hi hj hxy => ?_, fun i q hi => ?_⟩
  · obtain ⟨i2, hi2, zi⟩ := rs_swap_at hi
    obtain ⟨j2, hj2, zj⟩ := rs_swap_at hj
    have := h.1 i2 j2 x y hi2 hj2 hxy
    omega
  · obtain ⟨i2, hi2, -⟩ := rs_swap_at hi
    exact h.2 i2 q hi2
