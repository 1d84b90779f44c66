theorem s_cheapest {R : Nat → Nat} {f : Nat → Int32} {lo hi N : Nat} (h1 : lo ≤ hi) (h2 : hi ≤ 891) (hf : ∀ q, lo ≤ q → q ≤ hi → f q = nI (R q)) (hR : ∀ q, lo ≤ q → q ≤ hi → R q < 2 ^ 31) (hN : 900 < N) :
    ∃ b, f_X0_cheapest N 892 (nI lo) (nI hi) f = some (nI b) ∧ lo ≤ b ∧ b ≤ hi ∧ ∀ q, lo ≤ q → q ≤ hi → R b ≤ R q := by
  unfold f_X0_cheapest
  rw [rs_lt_eq, nI_1]
  unfold rs_l2
  obtain ⟨r, q1, q2⟩ := rs_loop_inv (body := fun s : Int32 × Int32 => f_X0_cheapest_L7 (nI hi) 892 f s.1 s.2) (fun i s => s.2 = nI (lo + 1 + i) ∧ ∃ b, s.1 = nI b ∧ lo ≤ b ∧ b ≤ lo + i ∧ ∀ q, lo ≤ q → q ≤ lo + i → R b ≤ R q) (fun r => ∃ b, r = nI b ∧ lo ≤ b ∧ b ≤ hi ∧ ∀ q, lo ≤ q → q ≤ hi → R b ≤ R q) (hi - lo) (by
    rintro i ⟨a, c⟩ hi' ⟨k1, b, k2, k3, k4, k5⟩
    dsimp only at k1 k2 ⊢
    subst k1 k2
    unfold f_X0_cheapest_L7
    by_cases cc : hi - lo ≤ i
    · have : i = hi - lo := by omega
      subst this
      rw [if_pos (nI_lt (by omega) (by omega))]
      refine Or.inr ⟨_, rfl, b, rfl, k3, by omega, fun q hq hq2 => k5 q hq (by omega)⟩
    · rw [if_neg (nI_nlt (by omega) (by omega)), s_atA f (by omega) (by omega), rs_b1_some, s_atA f (by omega) (by omega), rs_b1_some, hf _ (by omega) (by omega), hf _ (by omega) (by omega), nI_1]
      have r1 := hR b (by omega) (by omega)
      have r2 := hR (lo + 1 + i) (by omega) (by omega)
      by_cases c1 : R b ≤ R (lo + 1 + i)
      · rw [if_pos (nI_le c1 (by omega)), rs_b1_some]
        refine Or.inl ⟨_, rfl, ⟨rfl, b, rfl, k3, by omega, fun q hq hq2 => ?_⟩, by omega⟩
        by_cases c2 : q = lo + 1 + i
        · rw [c2]; exact c1
        · exact k5 q hq (by omega)
      · rw [if_neg (nI_ge (by omega) (by omega)), rs_b1_some]
        refine Or.inl ⟨_, rfl, ⟨rfl, lo + 1 + i, rfl, by omega, by omega, fun q hq hq2 => ?_⟩, by omega⟩
        by_cases c2 : q = lo + 1 + i
        · rw [c2]; exact Nat.le_refl _
        · have := k5 q hq (by omega)
          omega) N 0 (nI lo, nI (lo + 1)) (by omega) (by omega) ⟨rfl, lo, rfl, Nat.le_refl _, Nat.le_refl _, fun q hq hq2 => by
          have : q = lo := by omega
          rw [this]
          exact Nat.le_refl _⟩
  obtain ⟨b, w1, w2, w3, w4⟩ := q2
  subst w1
  rw [q1]
  exact ⟨b, rfl, w2, w3, w4⟩
theorem s_nearest {b p cp nd : Nat} (hb : b ≤ 891) (hp : p ≤ 891) (hc : cp ≤ 891) (hn : nd ≤ p) : f_X0_nearest (nI b) (nI p - nI cp) (nI p - nI nd) = some (nI (nr2 b (p - cp) (p - nd))) := by
  unfold f_X0_nearest nr2
  rw [pk_sub hn]
  have e1 : (if nI (p - nd) < nI b then nI (p - nd) else nI b) = nI (if b ≤ p - nd then b else p - nd) := by
    by_cases c : b ≤ p - nd
    · rw [if_neg (nI_nlt c (by omega)), if_pos c]
    · rw [if_pos (nI_lt (by omega) (by omega)), if_neg c]
  rw [e1]
  generalize hI : (if b ≤ p - nd then b else p - nd) = I
  have hI2 : I ≤ 891 := by rw [← hI]; split <;> omega
  have t1 : (nI p - nI cp).toInt = (p : Int) - cp := pk_sub_toInt (by omega) (by omega)
  have t2 : (nI I).toInt = I := nI_toInt (by omega)
  by_cases c : p - cp ≤ I
  · rw [if_pos c]
    by_cases c2 : (p : Int) - cp < I
    · rw [if_pos (by rw [pn_lt, t1, t2]; exact c2)]
    · rw [if_neg (by rw [pn_lt, t1, t2]; exact c2), pk_sub (by omega), show p - cp = I by omega]
  · rw [if_neg c, if_neg (by rw [pn_lt, t1, t2]; omega), pk_sub (by omega)]
theorem s_absd {p h : Nat} (hp : p ≤ 891) (hh : h ≤ 891) : (if 0 ≤ (nI p - nI h) then (nI p - nI h) else 0 - (nI p - nI h)) = nI (ab p h) := by
  have t1 : (nI p - nI h).toInt = (p : Int) - h := pk_sub_toInt (by omega) (by omega)
  have t0 : (0 : Int32).toInt = 0 := rfl
  unfold ab
  by_cases c : h ≤ p
  · rw [if_pos c, if_pos (by rw [pn_le, t1, t0]; omega), pk_sub c]
  · rw [if_neg c, if_neg (by rw [pn_le, t1, t0]; omega), ← pk_sub (a := h) (b := p) (by omega)]
    grind
def NE (D : Nat → Nat) (V : Nat → Nat → Nat) (y m j : Nat) : Nat := nd (qq D V y j) (V 1 j) m m
def HD (V : Nat → Nat → Nat) (j : Nat) : Nat := if j < 9 then sm (fun k => V 2 k) (j + 1) else 0
def CP (V : Nat → Nat → Nat) (j : Nat) : Nat := V 3 j
theorem sm_st {V : Nat → Nat → Nat} (hV : vok V) : ∀ j, j ≤ 9 → sm (fun k => V 2 k) j ≤ 99 * j
  | 0, _ => Nat.le_refl _
  | j + 1, h => by
    have := sm_st hV j (by omega)
    obtain ⟨v1, v2, v3, v4⟩ := hV j (by omega)
    show sm (fun k => V 2 k) j + V 2 j ≤ _
    omega
theorem HD_le {V : Nat → Nat → Nat} (hV : vok V) (j : Nat) : HD V j ≤ 891 := by
  unfold HD
  split
  · have := sm_st hV (j + 1) (by omega)
    omega
  · omega
theorem RR_low {nd cp hd : Nat → Nat} : ∀ j p, p < sm nd j → RR nd cp hd j p = 1000000000
  | 0, p, h => by
    have : sm nd 0 = 0 := rfl
    omega
  | j + 1, p, h => by
    have h' : p < sm nd j + nd j := h
    rw [RR_s]
    rcases mn_ex (RR nd cp hd j) (nd j) (cp j) p with e | ⟨x, k1, k2, k3, k4⟩
    · rw [if_pos e]
    · rw [if_pos (k4.trans (RR_low j _ (by omega)))]
def okn (D : Nat → Nat) (V : Nat → Nat → Nat) (y m n : Nat) : Prop := ∀ j, j < n → nok (qq D V y j) (V 1 j) (V 3 j) m
noncomputable def cres (D : Nat → Nat) (V : Nat → Nat → Nat) (y m : Nat) : Int32 := @ite _ (okn D V y m (D 0)) (Classical.propDecidable _) (if RR (NE D V y m) (CP V) (HD V) (D 0) (sm (fun k => V 2 k) (D 0)) = 1000000000 then -6 else nI (RR (NE D V y m) (CP V) (HD V) (D 0) (sm (fun k => V 2 k) (D 0)))) (-6)
theorem cres_p {D : Nat → Nat} {V : Nat → Nat → Nat} {y m : Nat} (h : okn D V y m (D 0)) : cres D V y m = if RR (NE D V y m) (CP V) (HD V) (D 0) (sm (fun k => V 2 k) (D 0)) = 1000000000 then -6 else nI (RR (NE D V y m) (CP V) (HD V) (D 0) (sm (fun k => V 2 k) (D 0))) := if_pos h
theorem cres_n {D : Nat → Nat} {V : Nat → Nat → Nat} {y m : Nat} (h : ¬ okn D V y m (D 0)) : cres D V y m = -6 := if_neg h
theorem cres_low {D : Nat → Nat} {V : Nat → Nat → Nat} {y m j : Nat} (hj : j ≤ D 0) (h : sm (fun k => V 2 k) (D 0) < sm (NE D V y m) j) : cres D V y m = -6 := by
  by_cases c : okn D V y m (D 0)
  · rw [cres_p c, RR_low, if_pos rfl]
    have : ∀ d, sm (NE D V y m) j ≤ sm (NE D V y m) (j + d) := by
      intro d
      induction d with
      | zero => exact Nat.le_refl _
      | succ d ih => exact Nat.le_trans ih (Nat.le_add_right _ _)
    have := this (D 0 - j)
    rw [show j + (D 0 - j) = D 0 by omega] at this
    omega
  · exact cres_n c
theorem nr_ne {D : Nat → Nat} {V : Nat → Nat → Nat} (hV : vok V) {y m j : Nat} (hj : j < 9) (h : nok (qq D V y j) (V 1 j) (V 3 j) m) : nr (qq D V y j) (V 1 j) (V 3 j) m = nI (NE D V y m j) ∧ NE D V y m j ≤ V 3 j ∧ V 3 j ≤ 99 :=
  ⟨nr_pos h, h m (Nat.le_refl _), (hV j hj).2.2.1⟩
theorem s_fewest {D : Nat → Nat} (h : sd_ok D) {V : Nat → Nat → Nat} (hV : vok V) {f : Nat → Int32} (hX : XS V f) {N : Nat} (hN : 1000 < N) {y m : Nat} (hy : y < 2 ^ 22) (hm : m ≤ 100) (a1 a2 : Nat → Int32) :
    f_X0_fewestSteps N (nI m) (nI y) (nI (D 0)) (nI (D 1)) (nI (D 2)) (nI (D 3)) (nI (D 4)) (nI (D 5)) (nI (D 6)) f a1 a2 = some (cres D V y m) := by
  have hb := h.2.1
  unfold f_X0_fewestSteps
  have hTb := sm_st hV (D 0) hb
  generalize hT : sm (fun k => V 2 k) (D 0) = T at hTb
  rw [s_together hX hb (by omega), rs_b1_some, hT]
  rw [show f_X10_put 892 0 0 a1 = some (upd a1 0 0) from s_putA (n := 892) (i := 0) a1 (by omega) (by omega) 0, rs_b1_some]
  unfold rs_l5
  obtain ⟨r, q1, q2⟩ := rs_loop_inv (body := fun s : (Nat → Int32) × (Nat → Int32) × Int32 × Int32 × Int32 => f_X0_fewestSteps_L46 N (nI (D 0)) (nI m) (nI y) f (nI (D 1)) (nI (D 2)) (nI (D 3)) (nI (D 4)) (nI (D 5)) (nI (D 6)) (nI T) s.1 s.2.1 s.2.2.1 s.2.2.2.1 s.2.2.2.2) (fun j s => s.2.2.2.2 = nI j ∧ okn D V y m j ∧ ∃ hi, s.2.2.1 = nI (sm (NE D V y m) j) ∧ s.2.2.2.1 = nI hi ∧ SP (RR (NE D V y m) (CP V) (HD V) j) (sm (NE D V y m) j) hi T j ∧ ∀ q, sm (NE D V y m) j ≤ q → q ≤ hi → s.1 q = nI (RR (NE D V y m) (CP V) (HD V) j q)) (fun r => rs_m3 (some r) (fun (f109 : (Nat → Int32)) (f110 : (Nat → Int32)) (x111 : Int32) => if x111 = (nI T) then rs_b1 (f_X10_at 892 (nI T) f109) (fun (x114 : Int32) => some x114) else some (-6)) = some (cres D V y m)) (D 0) (by
    rintro j ⟨u, v, x1, x2, x3⟩ hj ⟨k1, k0, hi, k2, k3, k4, k5⟩
    dsimp only at k1 k2 k3 k5 ⊢
    subst k1 k2 k3
    have k4' := k4
    obtain ⟨s1, s2, s3, s4, s5⟩ := k4
    unfold f_X0_fewestSteps_L46
    by_cases cc : D 0 ≤ j
    · have : j = D 0 := by omega
      rw [if_pos (nI_le cc (by omega))]
      refine Or.inr ⟨_, rfl, ?_⟩
      show (if nI hi = nI T then rs_b1 (f_X10_at 892 (nI T) u) (fun (x114 : Int32) => some x114) else some (-6)) = _
      rw [this] at k0 k5 s4 s5 s1
      rw [cres_p k0, hT]
      by_cases c : hi = T
      · subst c
        have := s5 hi s1 (Nat.le_refl _)
        rw [if_pos rfl, s_atA u (by omega) (by omega), rs_b1_some, k5 hi s1 (Nat.le_refl _), if_neg (by omega)]
      · rw [if_neg (fun z => c ((nI_eq (by omega) (by omega)).mp z)), s4 T (Nat.le_refl _) (by omega), if_pos rfl]
    · rw [if_neg (nI_ge (by omega) (by omega)), s_needX h hV hX (by omega) hy (by omega) hm, rs_b1_some]
      by_cases cn : nok (qq D V y j) (V 1 j) (V 3 j) m
      · obtain ⟨n1, n2, n3⟩ := nr_ne hV (show j < 9 by omega) cn
        have hne : ¬ nI (NE D V y m j) = (-6 : Int32) := by
          intro z
          have z1 := congrArg Int32.toInt z
          rw [nI_toInt (by omega)] at z1
          have z2 : (-6 : Int32).toInt = -6 := rfl
          omega
        rw [n1, if_neg hne, nI_add]
        by_cases cl : sm (NE D V y m) j + NE D V y m j ≤ T
        · rw [if_pos (nI_le cl (by omega)), s_of3 hX (by omega), rs_b1_some]
          obtain ⟨b, b1, b2, b3, b4⟩ := s_cheapest (R := RR (NE D V y m) (CP V) (HD V) j) (N := N) s1 (by omega) k5 (fun q h1 h2 => by have := s5 q h1 h2; omega) (by omega)
          obtain ⟨A, SPn⟩ := SP_s k4' b2 b3 b4 (HD_le hV) (by omega) (by omega) n2 cl
          rw [b1, rs_b1_some, rs_lt_eq, rs_lt_eq, nI_add]
          have e1 : (if nI T < nI (hi + V 3 j) then nI T else nI (hi + V 3 j)) = nI (if T < hi + CP V j then T else hi + CP V j) := by
            show _ = nI (if T < hi + V 3 j then T else hi + V 3 j)
            by_cases c : T < hi + V 3 j
            · rw [if_pos (nI_lt c (by omega)), if_pos c]
            · rw [if_neg (nI_nlt (by omega) (by omega)), if_neg c]
          have hHD : HD V j = sm (fun k => V 2 k) (j + 1) := by unfold HD; rw [if_pos (by omega)]
          have hHD2 := HD_le hV j
          rw [e1, nI_1, s_together hX (show j + 1 ≤ 9 by omega) (by omega), rs_b1_some, ← hHD]
          generalize hhi : (if T < hi + CP V j then T else hi + CP V j) = hi' at A SPn
          have SPn' := SPn
          obtain ⟨t1, t2, t3, t4, t5⟩ := SPn
          unfold rs_l2
          obtain ⟨r, q1, q2⟩ := rs_loop_inv (body := fun s : (Nat → Int32) × Int32 => f_X0_fewestSteps_L140 (nI hi') (nI b) (nI (V 3 j)) (nI (NE D V y m j)) u (nI (HD V j)) s.1 s.2) (fun i s => s.2 = nI (sm (NE D V y m) j + NE D V y m j + i) ∧ ∀ q, sm (NE D V y m) j + NE D V y m j ≤ q → q < sm (NE D V y m) j + NE D V y m j + i → s.1 q = nI (RR (NE D V y m) (CP V) (HD V) (j + 1) q)) (fun r => ∀ q, sm (NE D V y m) j + NE D V y m j ≤ q → q ≤ hi' → r q = nI (RR (NE D V y m) (CP V) (HD V) (j + 1) q)) (hi' + 1 - (sm (NE D V y m) j + NE D V y m j)) (by
            rintro i ⟨w, x⟩ hi2 ⟨k6, k7⟩
            dsimp only at k6 k7 ⊢
            subst k6
            unfold f_X0_fewestSteps_L140
            by_cases c : hi' < sm (NE D V y m) j + NE D V y m j + i
            · rw [if_pos (nI_lt c (by omega))]
              exact Or.inr ⟨_, rfl, fun q h1 h2 => k7 q h1 (by omega)⟩
            · obtain ⟨A1, A2, A3⟩ := A (sm (NE D V y m) j + NE D V y m j + i) (by omega) (by omega)
              have hnear := s_nearest (b := b) (p := sm (NE D V y m) j + NE D V y m j + i) (cp := V 3 j) (nd := NE D V y m j) (by omega) (by omega) (by omega) (by omega)
              have A2' : sm (NE D V y m) j ≤ nr2 b (sm (NE D V y m) j + NE D V y m j + i - V 3 j) (sm (NE D V y m) j + NE D V y m j + i - NE D V y m j) := A2
              have A3' : nr2 b (sm (NE D V y m) j + NE D V y m j + i - V 3 j) (sm (NE D V y m) j + NE D V y m j + i - NE D V y m j) ≤ hi := A3
              have A1' : RR (NE D V y m) (CP V) (HD V) (j + 1) (sm (NE D V y m) j + NE D V y m j + i) = RR (NE D V y m) (CP V) (HD V) j (nr2 b (sm (NE D V y m) j + NE D V y m j + i - V 3 j) (sm (NE D V y m) j + NE D V y m j + i - NE D V y m j)) + ab (sm (NE D V y m) j + NE D V y m j + i) (HD V j) := A1
              rw [if_neg (nI_nlt (by omega) (by omega)), hnear, rs_b1_some, s_atA u (by omega) (by omega), rs_b1_some, s_absd (by omega) hHD2, k5 _ A2' A3', nI_add, ← A1', s_putA w (by omega) (by omega), rs_b1_some, nI_1]
              refine Or.inl ⟨_, rfl, ⟨rfl, fun q h1 h2 => ?_⟩, by omega⟩
              dsimp only
              by_cases cq : q = sm (NE D V y m) j + NE D V y m j + i
              · rw [cq, pk_us]
              · rw [pk_un cq]
                exact k7 q h1 (by omega)) N 0 (v, nI (sm (NE D V y m) j + NE D V y m j)) (by omega) (by omega) ⟨rfl, fun q h1 h2 => by omega⟩
          rw [q1, rs_b1_some]
          refine Or.inl ⟨_, rfl, ⟨rfl, ?_, hi', rfl, rfl, SPn', q2⟩, by omega⟩
          intro i hi3
          by_cases ci : i = j
          · rw [ci]; exact cn
          · exact k0 i (by omega)
        · rw [if_neg (nI_ge (by omega) (by omega))]
          refine Or.inr ⟨_, rfl, ?_⟩
          rw [cres_low (j := j + 1) (by omega) (by rw [hT]; show T < sm (NE D V y m) j + NE D V y m j; omega)]
          rfl
      · rw [nr_neg cn, if_pos rfl]
        refine Or.inr ⟨_, rfl, ?_⟩
        rw [cres_n (fun z => cn (z j (by omega)))]
        rfl) N 0 (upd a1 0 0, a2, 0, 0, 0) (by omega) (by omega) ⟨rfl, (fun j hj => by omega), 0, rfl, rfl, SP_z _ _ _ _, fun q h1 h2 => by
          have : q = 0 := by omega
          rw [this]
          show upd a1 0 0 0 = nI 0
          rw [pk_us]
          rfl⟩
  rw [q1]
  exact q2
