-- carry: the sums
def mi (g : Nat → Nat) : Nat → Nat
  | 0 => 1000000000
  | k + 1 => if mi g k ≤ g k then mi g k else g k
theorem mi_s (g : Nat → Nat) (k : Nat) : mi g (k + 1) = if mi g k ≤ g k then mi g k else g k := rfl
theorem mi_le (g : Nat → Nat) : ∀ k, mi g k ≤ 1000000000
  | 0 => Nat.le_refl _
  | k + 1 => by
    rw [mi_s]
    have := mi_le g k
    split <;> omega
theorem mi_all (g : Nat → Nat) : ∀ k i, i < k → mi g k ≤ g i
  | 0, i, h => by omega
  | k + 1, i, h => by
    rw [mi_s]
    by_cases c : i = k
    · subst c
      split <;> omega
    · have := mi_all g k i (by omega)
      split <;> omega
theorem mi_ex (g : Nat → Nat) : ∀ k, mi g k = 1000000000 ∨ ∃ i, i < k ∧ mi g k = g i
  | 0 => Or.inl rfl
  | k + 1 => by
    rw [mi_s]
    by_cases c : mi g k ≤ g k
    · rw [if_pos c]
      rcases mi_ex g k with h | ⟨i, h1, h2⟩
      · exact Or.inl h
      · exact Or.inr ⟨i, by omega, h2⟩
    · rw [if_neg c]
      exact Or.inr ⟨k, by omega, rfl⟩
def ab (p h : Nat) : Nat := if h ≤ p then p - h else h - p
def mn (g : Nat → Nat) (nd cp p : Nat) : Nat := mi (fun i => g (p - (nd + i))) ((if cp ≤ p then cp else p) + 1 - nd)
def RR (nd cp hd : Nat → Nat) : Nat → Nat → Nat
  | 0, p => if p = 0 then 0 else 1000000000
  | j + 1, p => if mn (RR nd cp hd j) (nd j) (cp j) p = 1000000000 then 1000000000 else mn (RR nd cp hd j) (nd j) (cp j) p + ab p (hd j)
theorem RR_s (nd cp hd : Nat → Nat) (j p : Nat) : RR nd cp hd (j + 1) p = if mn (RR nd cp hd j) (nd j) (cp j) p = 1000000000 then 1000000000 else mn (RR nd cp hd j) (nd j) (cp j) p + ab p (hd j) := rfl
theorem ab_le {p h : Nat} (hp : p ≤ 891) (hh : h ≤ 891) : ab p h ≤ 891 := by
  unfold ab
  split <;> omega
theorem mn_ex (g : Nat → Nat) (nd cp p : Nat) : mn g nd cp p = 1000000000 ∨ ∃ x, nd ≤ x ∧ x ≤ cp ∧ x ≤ p ∧ mn g nd cp p = g (p - x) := by
  unfold mn
  rcases mi_ex (fun i => g (p - (nd + i))) ((if cp ≤ p then cp else p) + 1 - nd) with h | ⟨i, h1, h2⟩
  · exact Or.inl h
  · refine Or.inr ⟨nd + i, by omega, ?_, ?_, h2⟩ <;> (split at h1 <;> omega)
theorem mn_all (g : Nat → Nat) (nd cp p x : Nat) (h1 : nd ≤ x) (h2 : x ≤ cp) (h3 : x ≤ p) : mn g nd cp p ≤ g (p - x) := by
  unfold mn
  have := mi_all (fun i => g (p - (nd + i))) ((if cp ≤ p then cp else p) + 1 - nd) (x - nd) (by split <;> omega)
  rw [show nd + (x - nd) = x by omega] at this
  exact this
theorem mn_le (g : Nat → Nat) (nd cp p : Nat) : mn g nd cp p ≤ 1000000000 := mi_le _ _
theorem RR_b {nd cp hd : Nat → Nat} (hh : ∀ j, hd j ≤ 891) : ∀ j p, p ≤ 891 → RR nd cp hd j p = 1000000000 ∨ RR nd cp hd j p ≤ 891 * j
  | 0, p, _ => by
    show (if p = 0 then 0 else 1000000000) = 1000000000 ∨ (if p = 0 then 0 else 1000000000) ≤ 891 * 0
    split
    · exact Or.inr (Nat.zero_le _)
    · exact Or.inl rfl
  | j + 1, p, hp => by
    rw [RR_s]
    by_cases c : mn (RR nd cp hd j) (nd j) (cp j) p = 1000000000
    · rw [if_pos c]
      exact Or.inl rfl
    · rw [if_neg c]
      rcases mn_ex (RR nd cp hd j) (nd j) (cp j) p with h | ⟨x, h1, h2, h3, h4⟩
      · exact absurd h c
      · have := ab_le hp (hh j)
        rcases RR_b hh j (p - x) (by omega) with h5 | h5
        · exact absurd (h4.trans h5) c
        · exact Or.inr (by omega)
def cvx (f : Nat → Nat) (lo hi : Nat) : Prop := ∀ p, lo ≤ p → p + 2 ≤ hi → 2 * f (p + 1) ≤ f p + f (p + 2)
theorem cvx_up {f : Nat → Nat} {lo hi b : Nat} (hc : cvx f lo hi) (h1 : lo ≤ b) (h2 : b ≤ hi) (hb : ∀ q, lo ≤ q → q ≤ hi → f b ≤ f q) : ∀ d, b + d + 1 ≤ hi → f (b + d) ≤ f (b + d + 1)
  | 0, h => hb (b + 1) (by omega) h
  | d + 1, h => by
    have := cvx_up hc h1 h2 hb d (by omega)
    have := hc (b + d) (by omega) (by omega)
    show f (b + d + 1) ≤ f (b + d + 2)
    omega
theorem cvx_dn {f : Nat → Nat} {lo hi b : Nat} (hc : cvx f lo hi) (h1 : lo ≤ b) (h2 : b ≤ hi) (hb : ∀ q, lo ≤ q → q ≤ hi → f b ≤ f q) : ∀ d, lo + d + 1 ≤ b → f (b - d) ≤ f (b - d - 1)
  | 0, h => hb (b - 1) (by omega) (by omega)
  | d + 1, h => by
    have h3 := cvx_dn hc h1 h2 hb d (by omega)
    have h4 := hc (b - d - 2) (by omega) (by omega)
    rw [show b - d - 2 + 1 = b - d - 1 by omega, show b - d - 2 + 2 = b - d by omega] at h4
    show f (b - (d + 1)) ≤ f (b - (d + 1) - 1)
    rw [show b - (d + 1) = b - d - 1 by omega, show b - d - 1 - 1 = b - d - 2 by omega]
    omega
theorem cvx_u1 {f : Nat → Nat} {lo hi b : Nat} (hc : cvx f lo hi) (h1 : lo ≤ b) (h2 : b ≤ hi) (hb : ∀ q, lo ≤ q → q ≤ hi → f b ≤ f q) {u : Nat} (hu : b ≤ u) (hu2 : u + 1 ≤ hi) : f u ≤ f (u + 1) := by
  have := cvx_up hc h1 h2 hb (u - b) (by omega)
  rw [show b + (u - b) = u by omega] at this
  exact this
theorem cvx_d1 {f : Nat → Nat} {lo hi b : Nat} (hc : cvx f lo hi) (h1 : lo ≤ b) (h2 : b ≤ hi) (hb : ∀ q, lo ≤ q → q ≤ hi → f b ≤ f q) {u : Nat} (hu : lo ≤ u) (hu2 : u + 1 ≤ b) : f (u + 1) ≤ f u := by
  have := cvx_dn hc h1 h2 hb (b - u - 1) (by omega)
  rw [show b - (b - u - 1) = u + 1 by omega, show u + 1 - 1 = u by omega] at this
  exact this
theorem cvx_um {f : Nat → Nat} {lo hi b : Nat} (hc : cvx f lo hi) (h1 : lo ≤ b) (h2 : b ≤ hi) (hb : ∀ q, lo ≤ q → q ≤ hi → f b ≤ f q) {u : Nat} (hu : b ≤ u) : ∀ d, u + d ≤ hi → f u ≤ f (u + d)
  | 0, _ => Nat.le_refl _
  | d + 1, h => Nat.le_trans (cvx_um hc h1 h2 hb hu d (by omega)) (cvx_u1 hc h1 h2 hb (u := u + d) (by omega) h)
theorem cvx_dm {f : Nat → Nat} {lo hi b : Nat} (hc : cvx f lo hi) (h1 : lo ≤ b) (h2 : b ≤ hi) (hb : ∀ q, lo ≤ q → q ≤ hi → f b ≤ f q) {u : Nat} (hu : lo ≤ u) : ∀ d, u + d ≤ b → f (u + d) ≤ f u
  | 0, _ => Nat.le_refl _
  | d + 1, h => Nat.le_trans (cvx_d1 hc h1 h2 hb (u := u + d) (by omega) h) (cvx_dm hc h1 h2 hb hu d (by omega))
-- the nearest to the cheapest
def nr2 (b lst mst : Nat) : Nat := if lst ≤ (if b ≤ mst then b else mst) then (if b ≤ mst then b else mst) else lst
theorem mn_nr {f : Nat → Nat} {lo hi b T nd cp p : Nat} (hc : cvx f lo hi) (h1 : lo ≤ b) (h2 : b ≤ hi) (hb : ∀ q, lo ≤ q → q ≤ hi → f b ≤ f q) (hT : hi ≤ T) (ho : ∀ q, q ≤ T → ¬ (lo ≤ q ∧ q ≤ hi) → f q = 1000000000) (hs : ∀ q, lo ≤ q → q ≤ hi → f q < 1000000000) (hnc : nd ≤ cp) (hp : lo + nd ≤ p) (hp2 : p ≤ hi + cp) (hp3 : p ≤ T) :
    mn f nd cp p = f (nr2 b (p - cp) (p - nd)) ∧ lo ≤ nr2 b (p - cp) (p - nd) ∧ nr2 b (p - cp) (p - nd) ≤ hi := by
  have r1 : lo ≤ nr2 b (p - cp) (p - nd) ∧ nr2 b (p - cp) (p - nd) ≤ hi ∧ p - cp ≤ nr2 b (p - cp) (p - nd) ∧ nr2 b (p - cp) (p - nd) ≤ p - nd := by
    unfold nr2
    repeat' split
    all_goals omega
  obtain ⟨r1, r2, r3, r4⟩ := r1
  refine ⟨?_, r1, r2⟩
  have le1 := mn_all f nd cp p (p - nr2 b (p - cp) (p - nd)) (by omega) (by omega) (by omega)
  rw [show p - (p - nr2 b (p - cp) (p - nd)) = nr2 b (p - cp) (p - nd) by omega] at le1
  have le2 := hs _ r1 r2
  rcases mn_ex f nd cp p with h | ⟨x, k1, k2, k3, k4⟩
  · omega
  · by_cases cin : lo ≤ p - x ∧ p - x ≤ hi
    · have : f (nr2 b (p - cp) (p - nd)) ≤ f (p - x) := by
        by_cases ca : b ≤ p - nd
        · by_cases cb : p - cp ≤ b
          · have : nr2 b (p - cp) (p - nd) = b := by
              unfold nr2
              rw [if_pos ca, if_pos cb]
            rw [this]
            exact hb _ cin.1 cin.2
          · have : nr2 b (p - cp) (p - nd) = p - cp := by
              unfold nr2
              rw [if_pos ca, if_neg cb]
            rw [this]
            have := cvx_um hc h1 h2 hb (u := p - cp) (by omega) (p - x - (p - cp)) (by omega)
            rw [show p - cp + (p - x - (p - cp)) = p - x by omega] at this
            exact this
        · have : nr2 b (p - cp) (p - nd) = p - nd := by
            unfold nr2
            rw [if_neg ca, if_pos (by omega)]
          rw [this]
          have := cvx_dm hc h1 h2 hb (u := p - x) cin.1 (p - nd - (p - x)) (by omega)
          rw [show p - x + (p - nd - (p - x)) = p - nd by omega] at this
          exact this
      omega
    · have := ho (p - x) (by omega) cin
      omega
theorem mn_out {f : Nat → Nat} {lo hi T nd cp p : Nat} (ho : ∀ q, q ≤ T → ¬ (lo ≤ q ∧ q ≤ hi) → f q = 1000000000) (hp3 : p ≤ T) (hp : ¬ (lo + nd ≤ p ∧ p ≤ hi + cp)) : mn f nd cp p = 1000000000 := by
  rcases mn_ex f nd cp p with h | ⟨x, k1, k2, k3, k4⟩
  · exact h
  · rw [k4]
    exact ho _ (by omega) (by omega)
theorem cvx_nr {f : Nat → Nat} {lo hi b nd cp h T : Nat} (hc : cvx f lo hi) (h1 : lo ≤ b) (h2 : b ≤ hi) (hb : ∀ q, lo ≤ q → q ≤ hi → f b ≤ f q) (hnc : nd ≤ cp) (hT : T ≤ hi + cp) : cvx (fun p => f (nr2 b (p - cp) (p - nd)) + ab p h) (lo + nd) T := by
  intro p hp hp2
  dsimp only
  have hab : 2 * ab (p + 1) h ≤ ab p h + ab (p + 2) h := by
    unfold ab
    repeat' split
    all_goals omega
  have key : 2 * f (nr2 b (p + 1 - cp) (p + 1 - nd)) ≤ f (nr2 b (p - cp) (p - nd)) + f (nr2 b (p + 2 - cp) (p + 2 - nd)) := by
    generalize hu : nr2 b (p - cp) (p - nd) = u
    generalize hv : nr2 b (p + 1 - cp) (p + 1 - nd) = v
    generalize hw : nr2 b (p + 2 - cp) (p + 2 - nd) = w
    have facts : lo ≤ u ∧ u ≤ hi ∧ w ≤ hi ∧ ((v = u + 1 ∧ w = v + 1) ∨ (v = u ∧ w = v) ∨ (v = u + 1 ∧ w = v ∧ u + 1 ≤ b) ∨ (v = u ∧ w = v + 1 ∧ b ≤ v)) := by
      subst hu hv hw
      unfold nr2
      repeat' split
      all_goals omega
    obtain ⟨f1, f2, f3, f4⟩ := facts
    rcases f4 with ⟨rfl, rfl⟩ | ⟨rfl, rfl⟩ | ⟨rfl, rfl, k⟩ | ⟨rfl, rfl, k⟩
    · have := hc u f1 (by omega)
      exact this
    · omega
    · have := cvx_d1 hc h1 h2 hb f1 k
      omega
    · have := cvx_u1 hc h1 h2 hb k f3
      omega
  omega
-- what the class keeps
def SP (f : Nat → Nat) (lo hi T j : Nat) : Prop := lo ≤ hi ∧ hi ≤ T ∧ cvx f lo hi ∧ (∀ q, q ≤ T → ¬ (lo ≤ q ∧ q ≤ hi) → f q = 1000000000) ∧ (∀ q, lo ≤ q → q ≤ hi → f q < 1000000000)
theorem SP_z (nd cp hd : Nat → Nat) (T : Nat) : SP (RR nd cp hd 0) 0 0 T 0 := by
  refine ⟨Nat.le_refl _, Nat.zero_le _, fun p hp hp2 => by omega, fun q hq hn => ?_, fun q _ h2 => ?_⟩
  · show (if q = 0 then 0 else 1000000000) = 1000000000
    rw [if_neg (by omega)]
  · show (if q = 0 then 0 else 1000000000) < 1000000000
    rw [if_pos (by omega)]
    omega
theorem SP_s {nd cp hd : Nat → Nat} {lo hi T j b : Nat} (h : SP (RR nd cp hd j) lo hi T j) (h1 : lo ≤ b) (h2 : b ≤ hi) (hb : ∀ q, lo ≤ q → q ≤ hi → RR nd cp hd j b ≤ RR nd cp hd j q) (hh : ∀ j, hd j ≤ 891) (hj : j ≤ 9) (hT : T ≤ 891) (hnc : nd j ≤ cp j) (hlo : lo + nd j ≤ T) :
    (∀ p, lo + nd j ≤ p → p ≤ (if T < hi + cp j then T else hi + cp j) → RR nd cp hd (j + 1) p = RR nd cp hd j (nr2 b (p - cp j) (p - nd j)) + ab p (hd j) ∧ lo ≤ nr2 b (p - cp j) (p - nd j) ∧ nr2 b (p - cp j) (p - nd j) ≤ hi) ∧ SP (RR nd cp hd (j + 1)) (lo + nd j) (if T < hi + cp j then T else hi + cp j) T (j + 1) := by
  obtain ⟨s1, s2, s3, s4, s5⟩ := h
  have A : ∀ p, lo + nd j ≤ p → p ≤ (if T < hi + cp j then T else hi + cp j) → RR nd cp hd (j + 1) p = RR nd cp hd j (nr2 b (p - cp j) (p - nd j)) + ab p (hd j) ∧ lo ≤ nr2 b (p - cp j) (p - nd j) ∧ nr2 b (p - cp j) (p - nd j) ≤ hi := by
    intro p hp hp2
    have hp3 : p ≤ T ∧ p ≤ hi + cp j := by split at hp2 <;> omega
    obtain ⟨e1, e2, e3⟩ := mn_nr s3 h1 h2 hb s2 s4 s5 hnc hp hp3.2 hp3.1
    have := s5 _ e2 e3
    rw [RR_s, e1, if_neg (by omega)]
    exact ⟨rfl, e2, e3⟩
  refine ⟨A, ?_, ?_, ?_, ?_, ?_⟩
  · split <;> omega
  · split <;> omega
  · have c := cvx_nr (h := hd j) (T := if T < hi + cp j then T else hi + cp j) s3 h1 h2 hb hnc (by split <;> omega)
    intro p hp hp2
    have := c p hp hp2
    dsimp only at this
    rw [(A p hp (by omega)).1, (A (p + 1) (by omega) (by omega)).1, (A (p + 2) (by omega) hp2).1]
    exact this
  · intro q hq hn
    rw [RR_s, mn_out (lo := lo) (hi := hi) (T := T) s4 hq (by split at hn <;> omega), if_pos rfl]
  · intro q hq hq2
    have hq3 : q ≤ T := by split at hq2 <;> omega
    have e := A q hq hq2
    rcases RR_b (nd := nd) (cp := cp) hh (j + 1) q (by omega) with h | h
    · exfalso
      have e5 := s5 _ e.2.1 e.2.2
      have e6 := ab_le (p := q) (by omega) (hh j)
      rcases RR_b (nd := nd) (cp := cp) hh j (nr2 b (q - cp j) (q - nd j)) (by omega) with h7 | h7
      · omega
      · have := e.1
        omega
    · omega
