theorem e_ways {D : Nat → Nat} (h : sd_ok D) {N : Nat} (hN : 200 < N) (p1 p2 p3 p4 : Int32) (w1 w2 u1 u2 : Nat → Int64) :
    ∃ (r : Int64) (v1 v2 : Nat → Int64), f_X10_ways N p1 p2 p3 p4 (nI (D 0)) (nI (D 1)) (nI (D 2)) (nI (D 3)) (nI (D 4)) (nI (D 5)) (nI (D 6)) w1 w2 = some r ∧ f_X11_ways N p1 p2 p3 p4 (nI (D 0)) (nI (D 1)) (nI (D 2)) (nI (D 3)) (nI (D 4)) (nI (D 5)) (nI (D 6)) u1 u2 = some (r, v1, v2) := by
  have hb := h.2.1
  unfold f_X10_ways f_X11_ways
  rw [s_hasLand p1 h.1 h.2.1, s_isLand p1 h.1 h.2.1, s_hasLand p2 h.1 h.2.1, s_isLand p2 h.1 h.2.1, s_isYear, s_isYearM, s_within, s_in]
  simp only [rs_b1_some, b2_0]
  cases g1 : isl p1 (D 0) with
  | false => exact ⟨_, u1, u2, rfl, rfl⟩
  | true =>
    cases g2 : isl p2 (D 0) with
    | false => exact ⟨_, u1, u2, rfl, rfl⟩
    | true =>
      cases g3 : isy p3 with
      | false => exact ⟨_, u1, u2, rfl, rfl⟩
      | true =>
        cases h2 : ins p4 0 30 with
        | false =>
          have e1 : (decide ((0 : Int32).toInt ≤ p4.toInt) && decide (p4.toInt ≤ (30 : Int32).toInt)) = false := h2
          have e2 : (decide ((0 : Int64).toInt ≤ p4.toInt) && decide (p4.toInt ≤ (30 : Int64).toInt)) = false := h2
          rw [e1, e2]
          exact ⟨_, u1, u2, rfl, rfl⟩
        | true =>
          have e1 : (decide ((0 : Int32).toInt ≤ p4.toInt) && decide (p4.toInt ≤ (30 : Int32).toInt)) = true := h2
          have e2 : (decide ((0 : Int64).toInt ≤ p4.toInt) && decide (p4.toInt ≤ (30 : Int64).toInt)) = true := h2
          rw [e1, e2]
          obtain ⟨a, ha, rfl⟩ := isl_of g1
          obtain ⟨b, hb2, rfl⟩ := isl_of g2
          obtain ⟨t, ht, rfl⟩ := isy_of g3
          obtain ⟨m, hm, rfl⟩ := ins_of (b := 30) h2
          simp only [itf]
          obtain ⟨f2, g4, k1, k2⟩ := s_goWalk h (N := N) (t := t) (m := m) (a := a) hN (by omega) (by omega) (by omega) u1 u2
          rw [s_waysX h (N := N) hN (by omega) (by omega) (by omega) (by omega), k1, rs_b2_some, if_neg (nI_in (by omega) (by omega)), nI_clamp (by omega), k2 b (by omega)]
          exact ⟨_, f2, g4, rfl, rfl⟩
theorem e_where {D : Nat → Nat} (h : sd_ok D) {N : Nat} (hN : 200 < N) (p1 p2 p3 : Int32) (u1 u2 : Nat → Int64) :
    ∃ (r : Int32) (v1 v2 : Nat → Int64), f_X10_where N p1 p2 p3 (nI (D 0)) (nI (D 1)) (nI (D 2)) (nI (D 3)) (nI (D 4)) (nI (D 5)) (nI (D 6)) = some r ∧ f_X11_where N p1 p2 p3 (nI (D 0)) (nI (D 1)) (nI (D 2)) (nI (D 3)) (nI (D 4)) (nI (D 5)) (nI (D 6)) u1 u2 = some (r, v1, v2) := by
  have hb := h.2.1
  unfold f_X10_where f_X11_where
  rw [s_hasLand p1 h.1 h.2.1, s_isLand p1 h.1 h.2.1, s_isYear, s_isYearM, s_within, s_in]
  simp only [rs_b1_some, b2_0]
  cases g1 : isl p1 (D 0) with
  | false => exact ⟨_, u1, u2, rfl, rfl⟩
  | true =>
    cases g3 : isy p2 with
    | false => exact ⟨_, u1, u2, rfl, rfl⟩
    | true =>
      cases h2 : ins p3 0 30 with
      | false =>
        have e1 : (decide ((0 : Int32).toInt ≤ p3.toInt) && decide (p3.toInt ≤ (30 : Int32).toInt)) = false := h2
        have e2 : (decide ((0 : Int64).toInt ≤ p3.toInt) && decide (p3.toInt ≤ (30 : Int64).toInt)) = false := h2
        rw [e1, e2]
        exact ⟨_, u1, u2, rfl, rfl⟩
      | true =>
        have e1 : (decide ((0 : Int32).toInt ≤ p3.toInt) && decide (p3.toInt ≤ (30 : Int32).toInt)) = true := h2
        have e2 : (decide ((0 : Int64).toInt ≤ p3.toInt) && decide (p3.toInt ≤ (30 : Int64).toInt)) = true := h2
        rw [e1, e2]
        obtain ⟨a, ha, rfl⟩ := isl_of g1
        obtain ⟨t, ht, rfl⟩ := isy_of g3
        obtain ⟨m, hm, rfl⟩ := ins_of (b := 30) h2
        simp only [itf]
        obtain ⟨f2, g4, k1, k2⟩ := s_goWalk h (N := N) (t := t) (m := m) (a := a) hN (by omega) (by omega) (by omega) u1 u2
        rw [k1, rs_b2_some, s_places h (N := N) (by omega) hm k2, rs_b1_some, s_darkAt h (by omega) (by omega), rs_b1_some, rs_lt_eq, sh1 a (by omega), nI_and, pl_z D t a (by omega)]
        have e : rs_l2 (f_X10_where_L54 N (nI m) (nI t) (nI (D 0)) (nI (D 1)) (nI (D 2)) (nI (D 3)) (nI (D 4)) (nI (D 5)) (nI (D 6))) N (nI (pl D t a 0)) 1 = some (nI (pl D t a m)) := by
          unfold rs_l2
          refine rs_loop_run (fun j => (nI (pl D t a j), nI (j + 1))) m rfl (by omega) ?_ ?_
          · intro j hj
            show f_X10_where_L54 _ _ _ _ _ _ _ _ _ _ (nI (pl D t a j)) (nI (j + 1)) = _
            unfold f_X10_where_L54
            obtain ⟨z, z1, z2⟩ := s_beside h t a j
            rw [if_neg (nI_nlt (by omega) (by omega)), z1, rs_b1_some, nI_add, s_darkAt h (by omega) (by omega), rs_b1_some, rs_lt_eq, z2, nI_1]
          · show f_X10_where_L54 _ _ _ _ _ _ _ _ _ _ (nI (pl D t a m)) (nI (m + 1)) = _
            unfold f_X10_where_L54
            rw [if_pos (nI_lt (by omega) (by omega))]
        rw [e]
        exact ⟨_, f2, g4, rfl, rfl⟩
theorem e_meet {D : Nat → Nat} (h : sd_ok D) {N : Nat} (hN : 200 < N) (p1 p2 p3 : Int32) (u1 u2 : Nat → Int64) :
    ∃ (r : Int32) (v1 v2 : Nat → Int64), f_X10_meet N p1 p2 p3 (nI (D 0)) (nI (D 1)) (nI (D 2)) (nI (D 3)) (nI (D 4)) (nI (D 5)) (nI (D 6)) = some r ∧ f_X11_meet N p1 p2 p3 (nI (D 0)) (nI (D 1)) (nI (D 2)) (nI (D 3)) (nI (D 4)) (nI (D 5)) (nI (D 6)) u1 u2 = some (r, v1, v2) := by
  have hb := h.2.1
  unfold f_X10_meet f_X11_meet
  rw [s_hasLand p1 h.1 h.2.1, s_isLand p1 h.1 h.2.1, s_hasLand p2 h.1 h.2.1, s_isLand p2 h.1 h.2.1, s_isYear, s_isYearM]
  simp only [rs_b1_some, b2_0]
  cases g1 : isl p1 (D 0) with
  | false => exact ⟨_, u1, u2, rfl, rfl⟩
  | true =>
    cases g2 : isl p2 (D 0) with
    | false => exact ⟨_, u1, u2, rfl, rfl⟩
    | true =>
      cases g3 : isy p3 with
      | false => exact ⟨_, u1, u2, rfl, rfl⟩
      | true =>
        obtain ⟨a, ha, rfl⟩ := isl_of g1
        obtain ⟨b, hb2, rfl⟩ := isl_of g2
        obtain ⟨t, ht, rfl⟩ := isy_of g3
        simp only [itf]
        rw [s_darkAt h (by omega) (by omega), rs_b1_some, rs_lt_eq, rs_lt_eq, sh1 a (by omega), sh1 b (by omega), nI_and, nI_and, pl_z D t a (by omega), pl_z D t b (by omega)]
        have hand : ∀ i, (nI (pl D t a i) &&& nI (pl D t b i) = 0) ↔ decide (pl D t a i &&& pl D t b i ≠ 0) = false := by
          intro i
          rw [nI_and]
          have h1 : pl D t a i &&& pl D t b i < 2 ^ 9 := Nat.and_lt_two_pow _ (pl_lt D t b i)
          rw [show (nI (pl D t a i &&& pl D t b i) = 0) ↔ (pl D t a i &&& pl D t b i = 0) from nI_eq (b := 0) (by omega) (by omega)]
          simp
        have eX : rs_b3 (rs_l4 (f_X10_meet_L64 N (nI (D 0)) (nI (D 1)) (nI (D 2)) (nI (D 3)) (nI (D 4)) (nI (D 5)) (nI (D 6))) N (nI t) (nI (pl D t a 0)) (nI (pl D t b 0)) 0) (fun (x32 : Int32) (x33 : Int32) (x34 : Int32) => if (x33 &&& x34) = 0 then some (-6) else some x32) = some (fres t (fnd (fun i => decide (pl D t a i &&& pl D t b i ≠ 0)) 31)) := by
          unfold rs_l4
          obtain ⟨r, h1, h2⟩ := rs_loop_inv (body := fun s : Int32 × Int32 × Int32 × Int32 => f_X10_meet_L64 N (nI (D 0)) (nI (D 1)) (nI (D 2)) (nI (D 3)) (nI (D 4)) (nI (D 5)) (nI (D 6)) s.1 s.2.1 s.2.2.1 s.2.2.2) (fun i s => s = (nI (t + i), nI (pl D t a i), nI (pl D t b i), nI i) ∧ ∀ j, j < i → (fun i => decide (pl D t a i &&& pl D t b i ≠ 0)) j = false) (fun r => rs_b3 (some r) (fun (x32 : Int32) (x33 : Int32) (x34 : Int32) => if (x33 &&& x34) = 0 then some (-6) else some x32) = some (fres t (fnd (fun i => decide (pl D t a i &&& pl D t b i ≠ 0)) 31))) 30 (by
            rintro i s hi ⟨rfl, q2⟩
            dsimp only
            unfold f_X10_meet_L64
            by_cases c30 : i = 30
            · subst c30
              refine Or.inr ⟨_, rfl, ?_⟩
              rw [rs_b3_some]
              by_cases c : nI (pl D t a 30) &&& nI (pl D t b 30) = 0
              · rw [if_pos c, fnd_of (f := fun i => decide (pl D t a i &&& pl D t b i ≠ 0)) (m := 31) (fun j hj => by
                  by_cases cj : j = 30
                  · subst cj; exact (hand 30).mp c
                  · exact q2 j (by omega))]
                rfl
              · rw [if_neg c, fnd_iff (f := fun i => decide (pl D t a i &&& pl D t b i ≠ 0)) (m := 31) (i := 30) (by omega) (by
                  cases hh : decide (pl D t a 30 &&& pl D t b 30 ≠ 0) with
                  | true => rfl
                  | false => exact absurd ((hand 30).mpr hh) c) q2]
                rfl
            · rw [if_neg (show ¬ (30 : Int32) ≤ nI i from nI_ge (b := 30) (by omega) (by omega))]
              by_cases c : nI (pl D t a i) &&& nI (pl D t b i) = 0
              · rw [if_pos c, nI_1]
                obtain ⟨z, z1, z2⟩ := s_beside h t a i
                obtain ⟨z', z3, z4⟩ := s_beside h t b i
                rw [s_darkAt h (by omega) (by omega), rs_b1_some, z1, rs_b1_some, rs_lt_eq, z3, rs_b1_some, rs_lt_eq, nI_1, show t + i + 1 = t + (i + 1) by omega, z2, z4]
                refine Or.inl ⟨_, rfl, ⟨rfl, ?_⟩, by omega⟩
                intro j hj
                by_cases cj : j = i
                · subst cj; exact (hand j).mp c
                · exact q2 j (by omega)
              · rw [if_neg c]
                refine Or.inr ⟨_, rfl, ?_⟩
                rw [rs_b3_some, if_neg c, fnd_iff (f := fun i => decide (pl D t a i &&& pl D t b i ≠ 0)) (m := 31) (i := i) (by omega) (by
                  cases hh : decide (pl D t a i &&& pl D t b i ≠ 0) with
                  | true => rfl
                  | false => exact absurd ((hand i).mpr hh) c) q2]
                rfl) N 0 (nI t, nI (pl D t a 0), nI (pl D t b 0), 0) (by omega) (by omega) ⟨rfl, fun j hj => by omega⟩
          rw [h1]
          exact h2
        have eM : ∃ v1 v2, rs_m2 (rs_l3 (f_X11_meet_L31 N (nI a) (nI t) (nI (D 0)) (nI (D 1)) (nI (D 2)) (nI (D 3)) (nI (D 4)) (nI (D 5)) (nI (D 6)) (nI b)) N u1 u2 0) (fun (f31 : (Nat → Int64)) (f32 : (Nat → Int64)) => some ((-6), f31, f32)) = some (fres t (fnd (fun i => decide (pl D t a i &&& pl D t b i ≠ 0)) 31), v1, v2) := by
          unfold rs_l3
          obtain ⟨r, h1, h2⟩ := rs_loop_inv (body := fun s : (Nat → Int64) × (Nat → Int64) × Int32 => f_X11_meet_L31 N (nI a) (nI t) (nI (D 0)) (nI (D 1)) (nI (D 2)) (nI (D 3)) (nI (D 4)) (nI (D 5)) (nI (D 6)) (nI b) s.1 s.2.1 s.2.2) (fun i s => s.2.2 = nI i ∧ ∀ j, j < i → (fun i => decide (pl D t a i &&& pl D t b i ≠ 0)) j = false) (fun r => ∃ v1 v2, rs_m2 (some r) (fun (f31 : (Nat → Int64)) (f32 : (Nat → Int64)) => some ((-6 : Int32), f31, f32)) = some (fres t (fnd (fun i => decide (pl D t a i &&& pl D t b i ≠ 0)) 31), v1, v2)) 31 (by
            rintro i ⟨s1, s2, s3⟩ hi ⟨q1, q2⟩
            dsimp only at q1
            subst q1
            dsimp only
            unfold f_X11_meet_L31
            by_cases c30 : i = 31
            · subst c30
              refine Or.inr ⟨_, rfl, s1, s2, ?_⟩
              rw [fnd_of (f := fun i => decide (pl D t a i &&& pl D t b i ≠ 0)) (m := 31) q2]
              rfl
            · rw [if_neg (show ¬ (30 : Int32) < nI i from nI_nlt (a := 30) (by omega) (by omega))]
              obtain ⟨f2, g4, k1, k2⟩ := s_goWalk h (N := N) (t := t) (m := i) (a := a) hN (by omega) (by omega) (by omega) s1 s2
              rw [k1, rs_b2_some, s_places h (N := N) (by omega) (by omega) k2, rs_b1_some]
              obtain ⟨f5, g5, k3, k4⟩ := s_goWalk h (N := N) (t := t) (m := i) (a := b) hN (by omega) (by omega) (by omega) f2 g4
              rw [k3, rs_b2_some, s_places h (N := N) (by omega) (by omega) k4, rs_b1_some]
              by_cases c : nI (pl D t a i) &&& nI (pl D t b i) = 0
              · rw [if_pos c, nI_1]
                refine Or.inl ⟨_, rfl, ⟨rfl, ?_⟩, by omega⟩
                intro j hj
                by_cases cj : j = i
                · subst cj; exact (hand j).mp c
                · exact q2 j (by omega)
              · rw [if_neg c, nI_add]
                refine Or.inr ⟨_, rfl, f5, g5, ?_⟩
                rw [fnd_iff (f := fun i => decide (pl D t a i &&& pl D t b i ≠ 0)) (m := 31) (i := i) (by omega) (by
                  cases hh : decide (pl D t a i &&& pl D t b i ≠ 0) with
                  | true => rfl
                  | false => exact absurd ((hand i).mpr hh) c) q2]
                rfl) N 0 (u1, u2, 0) (by omega) (by omega) ⟨rfl, fun j hj => by omega⟩
          rw [h1]
          exact h2
        obtain ⟨v1, v2, eM⟩ := eM
        rw [eX, eM]
        exact ⟨_, v1, v2, rfl, rfl⟩
