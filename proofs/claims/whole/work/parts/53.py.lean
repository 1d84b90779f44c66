theorem rs_m4_inl {a1 a2 a3 a4 ζ : Type} (x1 : a1) (x2 : a2) (x3 : a3) (x4 : a4) (k : a1 → a2 → a3 → a4 → Option ζ) : rs_m4 (some (.inl (x1, x2, x3, x4))) k = k x1 x2 x3 x4 := rfl
theorem rs_m4_inr {a1 a2 a3 a4 ζ : Type} (z : ζ) (k : a1 → a2 → a3 → a4 → Option ζ) : rs_m4 (some (.inr z)) k = some z := rfl
theorem s_mnM {R : Nat → Nat} {f : Nat → Int32} {nd cp p N : Nat} (hp : p ≤ 891) (hc : cp ≤ 891) (hn : nd ≤ 891) (hf : ∀ q, q ≤ 891 → f q = nI (R q)) (hR : ∀ q, q ≤ 891 → R q ≤ 1000000000) (hN : 900 < N) :
    rs_l2 (f_X11_carryOn_L18 (nI cp) (nI p) f) N 1000000000 (nI nd) = some (nI (mn R nd cp p)) := by
  unfold rs_l2 mn
  refine rs_loop_run (fun i => (nI (mi (fun i => R (p - (nd + i))) i), nI (nd + i))) ((if cp ≤ p then cp else p) + 1 - nd) rfl (by split <;> omega) ?_ ?_
  · intro i hi
    have hi2 : nd + i ≤ cp ∧ nd + i ≤ p := by split at hi <;> omega
    show f_X11_carryOn_L18 _ _ _ (nI (mi (fun i => R (p - (nd + i))) i)) (nI (nd + i)) = some (Sum.inl (nI (if mi (fun i => R (p - (nd + i))) i ≤ R (p - (nd + i)) then mi (fun i => R (p - (nd + i))) i else R (p - (nd + i))), nI (nd + (i + 1))))
    unfold f_X11_carryOn_L18
    have m1 := mi_le (fun i => R (p - (nd + i))) i
    have m2 := hR (p - (nd + i)) (by omega)
    rw [if_neg (nI_nlt (by omega) (by omega)), if_neg (nI_nlt (by omega) (by omega)), pk_sub (by omega), if_neg (nI_in (by omega) (by omega)), if_neg (nI_in (by omega) (by omega)), nI_clamp (by omega), hf _ (by omega), nI_1]
    by_cases c : mi (fun i => R (p - (nd + i))) i ≤ R (p - (nd + i))
    · rw [if_pos (nI_le c (by omega)), if_pos c]
      rfl
    · rw [if_neg (nI_ge (by omega) (by omega)), if_neg c]
      rfl
  · show f_X11_carryOn_L18 _ _ _ (nI (mi (fun i => R (p - (nd + i))) ((if cp ≤ p then cp else p) + 1 - nd))) (nI (nd + ((if cp ≤ p then cp else p) + 1 - nd))) = _
    unfold f_X11_carryOn_L18
    generalize hK : (if cp ≤ p then cp else p) + 1 - nd = K
    by_cases c : cp < nd + K
    · rw [if_pos (nI_lt c (by split at hK <;> omega))]
    · rw [if_neg (nI_nlt (by omega) (by omega)), if_pos (nI_lt (by split at hK <;> omega) (by split at hK <;> omega))]
theorem s_carryOn {nd cp hd : Nat → Nat} {j N : Nat} (hh : ∀ j, hd j ≤ 891) (hj : j ≤ 9) (hc : cp j ≤ 891) (hn : nd j ≤ 891) {f : Nat → Int32} (hf : ∀ q, q ≤ 891 → f q = nI (RR nd cp hd j q)) (hN : 900 < N) (g : Nat → Int32) :
    ∃ f2 g2, f_X11_carryOn N (nI (nd j)) (nI (cp j)) (nI (hd j)) f g = some (f2, g2) ∧ ∀ q, q ≤ 891 → f2 q = nI (RR nd cp hd (j + 1) q) := by
  have hR : ∀ q, q ≤ 891 → RR nd cp hd j q ≤ 1000000000 := fun q hq => by
    rcases RR_b (nd := nd) (cp := cp) hh j q hq with h | h <;> omega
  have hh2 := hh j
  unfold f_X11_carryOn rs_l2
  obtain ⟨r, q1, q2⟩ := rs_loop_inv (body := fun s : (Nat → Int32) × Int32 => f_X11_carryOn_L3 N (nI (cp j)) f (nI (nd j)) (nI (hd j)) s.1 s.2) (fun i s => s.2 = nI i ∧ ∀ q, q < i → s.1 q = nI (RR nd cp hd (j + 1) q)) (fun r => ∀ q, q ≤ 891 → r q = nI (RR nd cp hd (j + 1) q)) 892 (by
    rintro i ⟨u, x⟩ hi ⟨k1, k2⟩
    dsimp only at k1 k2 ⊢
    subst k1
    unfold f_X11_carryOn_L3
    by_cases cc : 892 ≤ i
    · have : i = 892 := by omega
      subst this
      exact Or.inr ⟨_, rfl, fun q hq => k2 q (by omega)⟩
    · rw [if_neg (show ¬ (892 : Int32) ≤ nI i from nI_ge (b := 892) (by omega) (by omega)), s_mnM (R := RR nd cp hd j) (by omega) hc hn hf hR hN, rs_b1_some]
      have e1 : (if nI (hd j) ≤ nI i then some (nI i - nI (hd j)) else some (nI (hd j) - nI i)) = some (nI (ab i (hd j))) := by
        unfold ab
        by_cases c : hd j ≤ i
        · rw [if_pos (nI_le c (by omega)), if_pos c, pk_sub c]
        · rw [if_neg (nI_ge (by omega) (by omega)), if_neg c, pk_sub (by omega)]
      have hm := mn_le (RR nd cp hd j) (nd j) (cp j) i
      have e2 : (if nI (mn (RR nd cp hd j) (nd j) (cp j) i) = (1000000000 : Int32) then some (1000000000 : Int32) else some (nI (mn (RR nd cp hd j) (nd j) (cp j) i) + nI (ab i (hd j)))) = some (nI (RR nd cp hd (j + 1) i)) := by
        rw [RR_s]
        by_cases c : mn (RR nd cp hd j) (nd j) (cp j) i = 1000000000
        · rw [c, if_pos rfl]
          rfl
        · rw [if_neg (show ¬ nI (mn (RR nd cp hd j) (nd j) (cp j) i) = (1000000000 : Int32) from fun z => c ((nI_eq (b := 1000000000) (by omega) (by omega)).mp z)), if_neg c, nI_add]
      rw [e1, rs_b1_some, e2, rs_b1_some, if_neg (nI_in (by omega) (by omega)), nI_clamp (by omega), nI_1]
      refine Or.inl ⟨_, rfl, ⟨rfl, ?_⟩, by omega⟩
      intro q hq
      dsimp only
      by_cases c : q = i
      · rw [c, pk_us]
      · rw [pk_un c]
        exact k2 q (by omega)) N 0 (g, 0) (by omega) (by omega) ⟨rfl, fun q hq => by omega⟩
  rw [q1, rs_b1_some]
  obtain ⟨r2, q3, q4⟩ := rs_loop_inv (body := fun s : (Nat → Int32) × Int32 => f_X11_carryOn_L121 r s.1 s.2) (fun i s => s.2 = nI i ∧ ∀ q, q < i → s.1 q = r q) (fun g => ∀ q, q ≤ 891 → g q = r q) 892 (by
    rintro i ⟨u, x⟩ hi ⟨k1, k2⟩
    dsimp only at k1 k2 ⊢
    subst k1
    unfold f_X11_carryOn_L121
    by_cases cc : 892 ≤ i
    · have : i = 892 := by omega
      subst this
      exact Or.inr ⟨_, rfl, fun q hq => k2 q (by omega)⟩
    · rw [if_neg (show ¬ (892 : Int32) ≤ nI i from nI_ge (b := 892) (by omega) (by omega)), if_neg (nI_in (by omega) (by omega)), if_neg (nI_in (by omega) (by omega)), nI_clamp (by omega), nI_1]
      refine Or.inl ⟨_, rfl, ⟨rfl, ?_⟩, by omega⟩
      intro q hq
      dsimp only
      by_cases c : q = i
      · rw [c, pk_us]
      · rw [pk_un c]
        exact k2 q (by omega)) N 0 (f, 0) (by omega) (by omega) ⟨rfl, fun q hq => by omega⟩
  rw [q3]
  exact ⟨r2, r, rfl, fun q hq => (q4 q hq).trans (q2 q hq)⟩
theorem e_carry {D : Nat → Nat} (h : sd_ok D) {V : Nat → Nat → Nat} (hV : vok V) {f g : Nat → Int32} (hX : XS V f) (hM : MS V g) {N : Nat} (hN : 1000 < N) {y : Nat} (hy : y < 2 ^ 22) (p1 : Int32) (a1 a2 : Nat → Int32) (m1 m2 : Int32) (c1 c2 c3 c4 : Nat → Int32) :
    ∃ (r n1 n2 : Int32) (g2 d1 d2 d3 d4 : Nat → Int32), f_X10_carry N p1 (nI y) (nI (D 0)) (nI (D 1)) (nI (D 2)) (nI (D 3)) (nI (D 4)) (nI (D 5)) (nI (D 6)) f a1 a2 = some r ∧ f_X11_carry N p1 (nI (D 0)) (nI (D 1)) (nI (D 2)) (nI (D 3)) (nI (D 4)) (nI (D 5)) (nI (D 6)) (nI y) m1 m2 g c1 c2 c3 c4 = some (r, n1, n2, g2, d1, d2, d3, d4) ∧ MS V g2 := by
  have hb := h.2.1
  unfold f_X10_carry f_X11_carry
  simp only [s_within, s_in, rs_b1_some, b2_0]
  cases h2 : ins p1 1 40 with
  | false =>
    have e1 : (decide ((1 : Int32).toInt ≤ p1.toInt) && decide (p1.toInt ≤ (40 : Int32).toInt)) = false := h2
    have e2 : (decide ((1 : Int64).toInt ≤ p1.toInt) && decide (p1.toInt ≤ (40 : Int64).toInt)) = false := h2
    rw [e1, e2]
    exact ⟨_, _, _, g, _, _, _, _, rfl, rfl, hM⟩
  | true =>
    have e1 : (decide ((1 : Int32).toInt ≤ p1.toInt) && decide (p1.toInt ≤ (40 : Int32).toInt)) = true := h2
    have e2 : (decide ((1 : Int64).toInt ≤ p1.toInt) && decide (p1.toInt ≤ (40 : Int64).toInt)) = true := h2
    rw [e1, e2]
    obtain ⟨m, q3, q4, rfl⟩ := ins_of1 (a := 1) (b := 40) h2
    obtain ⟨b3, b4, w4, w5, w6⟩ := s_keepNow hM (nI y) c1 c2 (N := N) (by omega)
    simp only [itf]
    rw [s_fewest h hV hX hN hy (by omega), w4, rs_b4_some]
    have hTb := sm_st hV (D 0) hb
    unfold rs_l2
    obtain ⟨s0, k1, k2⟩ := rs_loop_inv (body := fun s : (Nat → Int32) × Int32 => f_X11_carry_L21 s.1 s.2) (fun i s => s.2 = nI i ∧ ∀ q, q < i → s.1 q = nI (RR (NE D V y m) (CP V) (HD V) 0 q)) (fun r => ∀ q, q ≤ 891 → r q = nI (RR (NE D V y m) (CP V) (HD V) 0 q)) 892 (by
      rintro i ⟨u, x⟩ hi ⟨k1, k2⟩
      dsimp only at k1 k2 ⊢
      subst k1
      unfold f_X11_carry_L21
      by_cases cc : 892 ≤ i
      · have : i = 892 := by omega
        subst this
        exact Or.inr ⟨_, rfl, fun q hq => k2 q (by omega)⟩
      · have e3 : (if nI i = 0 then some (0 : Int32) else some 1000000000) = some (nI (RR (NE D V y m) (CP V) (HD V) 0 i)) := by
          show _ = some (nI (if i = 0 then 0 else 1000000000))
          by_cases c : i = 0
          · subst c; rfl
          · rw [if_neg (nI_ne0 (by omega) (by omega)), if_neg c]
            rfl
        rw [if_neg (show ¬ (892 : Int32) ≤ nI i from nI_ge (b := 892) (by omega) (by omega)), e3, rs_b1_some, if_neg (nI_in (by omega) (by omega)), nI_clamp (by omega), nI_1]
        refine Or.inl ⟨_, rfl, ⟨rfl, ?_⟩, by omega⟩
        intro q hq
        dsimp only
        by_cases c : q = i
        · rw [c, pk_us]
        · rw [pk_un c]
          exact k2 q (by omega)) N 0 (c3, 0) (by omega) (by omega) ⟨rfl, fun q hq => by omega⟩
    rw [k1, rs_b1_some, rs_b1_some]
    generalize hT : sm (fun k => V 2 k) (D 0) = T at hTb
    unfold rs_l5
    obtain ⟨r, q1, q2⟩ := rs_loop_inv (body := fun s : (Nat → Int32) × (Nat → Int32) × (Nat → Int32) × Int32 × Int32 => f_X11_carry_L54 N (nI (D 0)) (nI m) (nI (D 1)) (nI (D 2)) (nI (D 3)) (nI (D 4)) (nI (D 5)) (nI (D 6)) (nI y) b3 0 (nI y) b4 s.1 s.2.1 s.2.2.1 s.2.2.2.1 s.2.2.2.2) (fun j s => s.2.2.2.2 = nI j ∧ okn D V y m j ∧ MS V s.1 ∧ s.2.2.2.1 = nI (sm (fun k => V 2 k) j) ∧ ∀ q, q ≤ 891 → s.2.1 q = nI (RR (NE D V y m) (CP V) (HD V) j q)) (fun r => ∃ (n1 n2 : Int32) (g2 d1 d2 d3 d4 : Nat → Int32), rs_m4 (some r) (fun (f42 : (Nat → Int32)) (f43 : (Nat → Int32)) (f44 : (Nat → Int32)) (x45 : Int32) => if (x45 < 0 ∨ 892 ≤ x45.toNatClampNeg) then none else if (f43 x45.toNatClampNeg) = 1000000000 then some ((-6 : Int32), (0 : Int32), nI y, f42, b3, b4, f43, f44) else if (x45 < 0 ∨ 892 ≤ x45.toNatClampNeg) then none else some ((f43 x45.toNatClampNeg), 0, nI y, f42, b3, b4, f43, f44)) = some (cres D V y m, n1, n2, g2, d1, d2, d3, d4) ∧ MS V g2) (D 0) (by
      rintro j ⟨u, v, w, x1, x2⟩ hj ⟨k3, k4, k5, k6, k7⟩
      dsimp only at k3 k5 k6 k7 ⊢
      subst k3 k6
      unfold f_X11_carry_L54
      by_cases cc : D 0 ≤ j
      · have : j = D 0 := by omega
        rw [this] at k4 k7
        rw [if_pos (nI_le cc (by omega)), this, hT]
        refine Or.inr ⟨_, rfl, ?_⟩
        rw [rs_m4_inl, if_neg (nI_in (by omega) (by omega)), if_neg (nI_in (by omega) (by omega)), nI_clamp (by omega), k7 T (by omega), cres_p k4, hT]
        have hbd : RR (NE D V y m) (CP V) (HD V) (D 0) T ≤ 1000000000 := by
          rcases RR_b (nd := NE D V y m) (cp := CP V) (HD_le hV) (D 0) T (by omega) with h | h <;> omega
        by_cases c : RR (NE D V y m) (CP V) (HD V) (D 0) T = 1000000000
        · rw [c, if_pos (show nI 1000000000 = (1000000000 : Int32) from rfl), if_pos rfl]
          exact ⟨_, _, _, _, _, _, _, rfl, k5⟩
        · rw [if_neg (show ¬ nI (RR (NE D V y m) (CP V) (HD V) (D 0) T) = (1000000000 : Int32) from fun z => c ((nI_eq (b := 1000000000) (by omega) (by omega)).mp z)), if_neg c]
          exact ⟨_, _, _, _, _, _, _, rfl, k5⟩
      · obtain ⟨f2, z1, z2⟩ := s_needM h hV k5 w5 (N := N) (by omega) hy (k := j) (m := m) (by omega) (by omega)
        rw [if_neg (nI_ge (by omega) (by omega)), z1, rs_b2_some]
        by_cases cn : nok (qq D V y j) (V 1 j) (V 3 j) m
        · obtain ⟨n1, n2, n3⟩ := nr_ne hV (show j < 9 by omega) cn
          have hHD : sm (fun k => V 2 k) j + V 2 j = HD V j := by unfold HD; rw [if_pos (by omega)]; rfl
          obtain ⟨f3, g3, z3, z4⟩ := s_carryOn (nd := NE D V y m) (cp := CP V) (hd := HD V) (j := j) (N := N) (HD_le hV) (by omega) (show V 3 j ≤ 891 by omega) (by omega) k7 (by omega) w
          have z3' : f_X11_carryOn N (nI (NE D V y m j)) (nI (V 3 j)) (nI (HD V j)) v w = some (f3, g3) := z3
          rw [n1, if_pos (nI_pos' (by omega)), s_at2, rs_b1_some, if_neg (nI_in (c := 9 * 2 + j) (N := 36) (by omega) (by omega)), nI_clamp (n := 9 * 2 + j) (by omega), z2 j (by omega) 2 (by omega), rs_lt_eq, s_at3, rs_b1_some, if_neg (nI_in (c := 9 * 3 + j) (N := 36) (by omega) (by omega)), nI_clamp (n := 9 * 3 + j) (by omega), z2 j (by omega) 3 (by omega), nI_add, hHD, z3', rs_b2_some, nI_1]
          refine Or.inl ⟨_, rfl, ⟨rfl, ?_, z2, ?_, z4⟩, by omega⟩
          · intro i hi3
            by_cases ci : i = j
            · rw [ci]; exact cn
            · exact k4 i (by omega)
          · dsimp only
            rw [← hHD]
            rfl
        · rw [nr_neg cn, if_neg (show ¬ (0 : Int32) ≤ -6 by decide)]
          refine Or.inr ⟨_, rfl, ?_⟩
          rw [rs_m4_inr, cres_n (fun z => cn (z j (by omega)))]
          exact ⟨_, _, _, _, _, _, _, rfl, z2⟩) N 0 (g, s0, c4, 0, 0) (by omega) (by omega) ⟨rfl, (fun j hj => by omega), hM, rfl, k2⟩
    obtain ⟨n1, n2, g2, d1, d2, d3, d4, z1, z2⟩ := q2
    rw [q1, z1]
    exact ⟨_, n1, n2, g2, d1, d2, d3, d4, rfl, rfl, z2⟩
