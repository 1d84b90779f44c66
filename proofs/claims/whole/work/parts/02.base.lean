abbrev rs_G : Type := va_G × ClassId × ClassId × ClassId × ClassId × ClassId
abbrev rs_T (G : rs_G) : List (ClassId × FieldType) := [(G.2.1, .int), (G.2.2.1, .long), (G.2.2.2.1, .char), (G.2.2.2.2.1, .boolean), (G.2.2.2.2.2, .object RX9)]
def rs_nest : List (String × Nat × MethodName × String) := [("RingShadow$World", 11, ⟨"RingShadow$Shadow", "<init>", "()V"⟩, "RingShadow"), ("RingShadow$Story", 11, ⟨"RingShadow$Shadow", "<init>", "()V"⟩, "RingShadow"), ("RingShadow$Census", 11, ⟨"RingShadow$Shadow", "<init>", "()V"⟩, "RingShadow"), ("RingShadow$Pad", 27, ⟨"RingShadow", "within", "(III)Z"⟩, "RingShadow"), ("RingShadow$Stock", 22, ⟨"RingShadow", "copy", "([I[I)V"⟩, "RingShadow"), ("RingShadow$Story", 40, ⟨"RingShadow", "clear", "([I)V"⟩, "RingShadow"), ("RingShadow$Story", 78, ⟨"RingShadow", "at", "([II)I"⟩, "RingShadow"), ("RingShadow$Story", 82, ⟨"RingShadow", "put", "([III)V"⟩, "RingShadow"), ("RingShadow$Shadow", 51, ⟨"RingShadow", "greatestDivisor", "(JJ)J"⟩, "RingShadow"), ("RingShadow$Shadow", 55, ⟨"RingShadow", "cut", "(II)I"⟩, "RingShadow"), ("RingShadow$Carrier", 40, ⟨"RingShadow", "put", "([III)V"⟩, "RingShadow"), ("RingShadow$Carrier", 64, ⟨"RingShadow", "at", "([II)I"⟩, "RingShadow"), ("RingShadow$Walk", 18, ⟨"RingShadow", "clear", "([J)V"⟩, "RingShadow"), ("RingShadow$Walk", 28, ⟨"RingShadow", "add", "([JIJ)V"⟩, "RingShadow"), ("RingShadow$Walk", 40, ⟨"RingShadow", "at", "([JI)J"⟩, "RingShadow"), ("RingShadow$Sights", 29, ⟨"RingShadow", "put", "([III)V"⟩, "RingShadow"), ("RingShadow$Census", 29, ⟨"RingShadow", "clear", "([I)V"⟩, "RingShadow"), ("RingShadow$Sights", 33, ⟨"RingShadow", "at", "([II)I"⟩, "RingShadow"), ("RingShadow$Census", 82, ⟨"RingShadow", "at", "([II)I"⟩, "RingShadow"), ("RingShadow$Census", 86, ⟨"RingShadow", "put", "([III)V"⟩, "RingShadow"), ("RingShadow$Cloud", 18, ⟨"RingShadow", "clear", "([J)V"⟩, "RingShadow"), ("RingShadow$Cloud", 34, ⟨"RingShadow", "add", "([JIJ)V"⟩, "RingShadow"), ("RingShadow$Shadow", 78, ⟨"RingShadow", "leftOver", "(II)I"⟩, "RingShadow"), ("RingShadow$Story", 117, ⟨"RingShadow", "leftOver", "(II)I"⟩, "RingShadow"), ("RingShadow$Sights", 21, ⟨"RingShadow", "copy", "([I[I)V"⟩, "RingShadow")]
def rs_N (U : State) : Prop := ∀ q ∈ rs_nest, va_Nw (.methodLinkNest q.1 q.2.1 q.2.2.1 q.2.2.2) U
def rs_K (G : rs_G) (U : State) : Prop := va_K G.1 vwCl (rs_T G) U ∧ rs_N U ∧ va_AO RX9 U
def rs_B (G : rs_G) (sz : Nat) (wc : va_W) (U : State) : Prop := U.heap.size = sz ∧ va_P G.1 vwCl wc U.heap ∧ rs_K G U ∧ va_D (fun _ => True) wc
theorem rs_K.warm {G : rs_G} {s U : State} (hW : s.WarmedH U.vm) (h : rs_K G s) : rs_K G U := ⟨va_K.moved hW.alike h.1, fun q hq => va_Nw.warmM hW (h.2.1 q hq), va_AO.moved hW.alike h.2.2⟩
theorem rs_blind {av : List Value} {G : rs_G} {sz : Nat} {wc : va_W} : FrameBlind (va_Pc av (rs_B G sz wc)) := by
  intro a U g mk q
  obtain ⟨q0, q1, q2, ⟨q3, q4, q6⟩, q5⟩ := q
  exact ⟨q0, q1, q2, ⟨va_K.moved (u := U) (U := U.calling g mk a) (Vm.Alike.refl U.vm) q3, fun q hq => va_Nw.same (u := U) (U := U.calling g mk a) rfl rfl (q4 q hq), va_AO.moved (u := U) (U := U.calling g mk a) (Vm.Alike.refl U.vm) q6⟩, q5⟩
theorem rs_preS {s : State} {H : Heap} {G : rs_G} {av : List Value} {wc : va_W} {A : Nat → Prop} (hP : va_P G.1 vwCl wc H) (hK : rs_K G s) (hD : va_D A wc) : PreS s H (va_Pc av (rs_B G H.size wc)) av :=
  ⟨rs_blind, fun U hU hW => ⟨rfl, by rw [hU], by rw [hU]; exact hP, hK.warm hW, hD.weaken (fun _ _ _ _ => trivial)⟩⟩
theorem rs_preV {s : State} {H : Heap} {G : rs_G} {b : Addr} {As : List Value} {wc : va_W} {A : Nat → Prop} {q0 ci : Nat} {r : vw_C} {fs : List Value} (hP : va_P G.1 vwCl wc H) (hK : rs_K G s) (hD : va_D A wc) (hc : vwCl[ci]? = some r) (he : wc[q0]? = some (b, .inr (ci, fs))) : PreV s H r.1 b (va_Pc (.ref b :: As) (rs_B G H.size wc)) As :=
  ⟨rs_blind, va_recv hK.1 hP hc he, fun U hU hW => ⟨rfl, by rw [hU], by rw [hU]; exact hP, hK.warm hW, hD.weaken (fun _ _ _ _ => trivial)⟩⟩
def rs_sets : va_W → List Nat → va_W → va_W
  | ws, i :: is, x :: xs => rs_sets (ws.set i x) is xs
  | ws, _, _ => ws
theorem rs_sets_fst : ∀ (is : List Nat) (ws xs wc : va_W), is.map (fun i => ws[i]?) = wc.map some → xs.map Prod.fst = wc.map Prod.fst → (rs_sets ws is xs).map Prod.fst = ws.map Prod.fst
  | [], ws, xs, wc, _, _ => by cases xs <;> rfl
  | i :: is, ws, [], wc, h, h2 => by
    cases wc with
    | nil => simp at h
    | cons y wc => simp at h2
  | i :: is, ws, x :: xs, wc, h, h2 => by
    cases wc with
    | nil => simp at h2
    | cons y wc =>
      simp only [List.map_cons, List.cons.injEq] at h h2
      have hset : (ws.set i x).map Prod.fst = ws.map Prod.fst := by
        apply List.ext_getElem?
        intro k
        rw [List.getElem?_map, List.getElem?_map, List.getElem?_set]
        by_cases hk : i = k
        · subst hk
          rw [if_pos rfl]
          have hl := (List.getElem?_eq_some_iff.mp h.1).1
          rw [if_pos hl, h.1]
          simp [h2.1]
        · rw [if_neg hk]
      unfold rs_sets
      rw [← hset]
      by_cases hn : is.map (fun k => (ws.set i x)[k]?) = is.map (fun k => ws[k]?)
      · exact rs_sets_fst is (ws.set i x) xs wc (by rw [hn]; exact h.2) h2.2
      · have hgo : ∀ (is : List Nat) (w1 : va_W) (xs wc : va_W), (∃ w0 : va_W, w1.map Prod.fst = w0.map Prod.fst ∧ is.map (fun i => w0[i]?) = wc.map some) → xs.map Prod.fst = wc.map Prod.fst → (rs_sets w1 is xs).map Prod.fst = w1.map Prod.fst := by
          intro is
          induction is with
          | nil => intro w1 xs wc _ _; cases xs <;> rfl
          | cons i is ih =>
            intro w1 xs wc hw hx
            obtain ⟨w0, hw1, hw2⟩ := hw
            cases wc with
            | nil => simp at hw2
            | cons y wc =>
              cases xs with
              | nil => simp at hx
              | cons x xs =>
                simp only [List.map_cons, List.cons.injEq] at hw2 hx
                have e1 : (w1.set i x).map Prod.fst = w1.map Prod.fst := by
                  apply List.ext_getElem?
                  intro k
                  rw [List.getElem?_map, List.getElem?_map, List.getElem?_set]
                  by_cases hk : i = k
                  · subst hk
                    rw [if_pos rfl]
                    have hm : (w1.map Prod.fst)[i]? = some y.1 := by rw [hw1, List.getElem?_map, hw2.1]; rfl
                    rw [List.getElem?_map] at hm
                    cases hq : w1[i]? with
                    | none => rw [hq] at hm; simp at hm
                    | some q =>
                      rw [hq] at hm
                      simp only [Option.map_some, Option.some.injEq] at hm
                      have hl := (List.getElem?_eq_some_iff.mp hq).1
                      rw [if_pos hl]
                      simp [hx.1, hm]
                  · rw [if_neg hk]
                unfold rs_sets
                rw [ih (w1.set i x) xs wc ⟨w0, by rw [e1]; exact hw1, hw2.2⟩ hx.2, e1]
        exact hgo is (ws.set i x) xs wc ⟨ws, hset, h.2⟩ h2.2
theorem rs_sets_at : ∀ (is : List Nat) (ws xs : va_W) (k : Nat) (q : Nat × va_E), (rs_sets ws is xs)[k]? = some q → (∃ j : Nat, xs[j]? = some q) ∨ (ws[k]? = some q ∧ (k ∉ is ∨ xs.length < is.length))
  | [], ws, xs, k, q, h => by
    right
    have : rs_sets ws [] xs = ws := by cases xs <;> rfl
    rw [this] at h
    exact ⟨h, Or.inl (by simp)⟩
  | i :: is, ws, [], k, q, h => Or.inr ⟨h, Or.inr (by simp)⟩
  | i :: is, ws, x :: xs, k, q, h => by
    unfold rs_sets at h
    rcases rs_sets_at is (ws.set i x) xs k q h with ⟨j, hj⟩ | ⟨h1, h2⟩
    · exact Or.inl ⟨j + 1, by rw [List.getElem?_cons_succ]; exact hj⟩
    · rw [List.getElem?_set] at h1
      by_cases hk : i = k
      · rw [if_pos hk] at h1
        by_cases hl : i < ws.length
        · rw [if_pos hl] at h1
          cases h1
          exact Or.inl ⟨0, rfl⟩
        · rw [if_neg hl] at h1
          cases h1
      · rw [if_neg hk] at h1
        refine Or.inr ⟨h1, ?_⟩
        rcases h2 with h2 | h2
        · exact Or.inl (fun z => by rcases List.mem_cons.mp z with z | z; exact hk z.symm; exact h2 z)
        · exact Or.inr (by simp; exact h2)
theorem rs_D_fst {A : Nat → Prop} {w1 w2 : va_W} (h : w2.map Prod.fst = w1.map Prod.fst) (hD : va_D A w1) : va_D A w2 := by
  have key : ∀ (k : Nat) (q : Nat × va_E), w2[k]? = some q → ∃ q0, w1[k]? = some q0 ∧ q0.1 = q.1 := by
    intro k q hk
    have h1 : (w2.map Prod.fst)[k]? = some q.1 := by rw [List.getElem?_map, hk]; rfl
    rw [h, List.getElem?_map] at h1
    cases hq : w1[k]? with
    | none => rw [hq] at h1; cases h1
    | some q0 => rw [hq] at h1; exact ⟨q0, rfl, Option.some.inj h1⟩
  refine ⟨fun i j x y hi hj hxy => ?_, fun k q hk => ?_⟩
  · obtain ⟨x0, h1, h2⟩ := key i x hi
    obtain ⟨y0, h3, h4⟩ := key j y hj
    exact hD.1 i j x0 y0 h1 h3 (h2.trans (hxy.trans h4.symm))
  · obtain ⟨q0, h1, h2⟩ := key k q hk
    rw [← h2]
    exact hD.2 k q0 h1
theorem rs_join {A : Nat → Prop} {D : va_G} {cl : List vw_C} {ws wc w1 : va_W} {H H1 : Heap} (hP : va_P D cl ws H) (hD : va_D A ws) (is : List Nat) (hC : is.map (fun i => ws[i]?) = wc.map some) (hf : w1.map Prod.fst = wc.map Prod.fst)
    (hk : ∀ q : Nat, q < H.size → ¬ va_A wc H.size q → H1[q]? = H[q]?) (hP1 : va_P D cl w1 H1) : va_P D cl (rs_sets ws is w1) H1 ∧ va_D A (rs_sets ws is w1) := by
  refine ⟨fun k q hq => ?_, rs_D_fst (rs_sets_fst is ws w1 wc hC hf) hD⟩
  rcases rs_sets_at is ws w1 k q hq with ⟨j, hj⟩ | ⟨h1, h2⟩
  · exact hP1 j q hj
  · refine (hP k q h1).kept (hk q.1 ((hP k q h1).lt) (fun z => ?_))
    have hlen : w1.length = is.length := by
      have e1 := congrArg List.length hf
      have e2 := congrArg List.length hC
      simp at e1 e2
      omega
    have hni : k ∉ is := by
      rcases h2 with h2 | h2
      · exact h2
      · omega
    rcases z with ⟨k2, e, z⟩ | z
    · have z1 : (is.map (fun i => ws[i]?))[k2]? = some (some (q.1, e)) := by rw [hC, List.getElem?_map, z]; rfl
      rw [List.getElem?_map] at z1
      cases hi : is[k2]? with
      | none => rw [hi] at z1; cases z1
      | some i =>
        rw [hi] at z1
        have z2 : ws[i]? = some (q.1, e) := Option.some.inj z1
        have := hD.1 k i q (q.1, e) h1 z2 rfl
        subst this
        exact hni (List.mem_of_getElem? hi)
    · have := (hP k q h1).lt
      omega

theorem rs_nw0 {U : State} (h : rs_N U) : va_Nw (.methodLinkNest RX9 11 yX4_init RX10) U := h ("RingShadow$World", 11, ⟨"RingShadow$Shadow", "<init>", "()V"⟩, "RingShadow") (List.mem_of_getElem? (i := 0) rfl)
theorem rs_nw1 {U : State} (h : rs_N U) : va_Nw (.methodLinkNest RX7 11 yX4_init RX10) U := h ("RingShadow$Story", 11, ⟨"RingShadow$Shadow", "<init>", "()V"⟩, "RingShadow") (List.mem_of_getElem? (i := 1) rfl)
theorem rs_nw2 {U : State} (h : rs_N U) : va_Nw (.methodLinkNest RX1 11 yX4_init RX10) U := h ("RingShadow$Census", 11, ⟨"RingShadow$Shadow", "<init>", "()V"⟩, "RingShadow") (List.mem_of_getElem? (i := 2) rfl)
theorem rs_nw3 {U : State} (h : rs_N U) : va_Nw (.methodLinkNest RX3 27 yX10_within RX10) U := h ("RingShadow$Pad", 27, ⟨"RingShadow", "within", "(III)Z"⟩, "RingShadow") (List.mem_of_getElem? (i := 3) rfl)
theorem rs_nw4 {U : State} (h : rs_N U) : va_Nw (.methodLinkNest RX6 22 yX10_copy RX10) U := h ("RingShadow$Stock", 22, ⟨"RingShadow", "copy", "([I[I)V"⟩, "RingShadow") (List.mem_of_getElem? (i := 4) rfl)
theorem rs_nw5 {U : State} (h : rs_N U) : va_Nw (.methodLinkNest RX7 40 yX10_clear RX10) U := h ("RingShadow$Story", 40, ⟨"RingShadow", "clear", "([I)V"⟩, "RingShadow") (List.mem_of_getElem? (i := 5) rfl)
theorem rs_nw6 {U : State} (h : rs_N U) : va_Nw (.methodLinkNest RX7 78 yX10_at RX10) U := h ("RingShadow$Story", 78, ⟨"RingShadow", "at", "([II)I"⟩, "RingShadow") (List.mem_of_getElem? (i := 6) rfl)
theorem rs_nw7 {U : State} (h : rs_N U) : va_Nw (.methodLinkNest RX7 82 yX10_put RX10) U := h ("RingShadow$Story", 82, ⟨"RingShadow", "put", "([III)V"⟩, "RingShadow") (List.mem_of_getElem? (i := 7) rfl)
theorem rs_nw8 {U : State} (h : rs_N U) : va_Nw (.methodLinkNest RX4 51 yX10_greatestDivisor RX10) U := h ("RingShadow$Shadow", 51, ⟨"RingShadow", "greatestDivisor", "(JJ)J"⟩, "RingShadow") (List.mem_of_getElem? (i := 8) rfl)
theorem rs_nw9 {U : State} (h : rs_N U) : va_Nw (.methodLinkNest RX4 55 yX10_cut RX10) U := h ("RingShadow$Shadow", 55, ⟨"RingShadow", "cut", "(II)I"⟩, "RingShadow") (List.mem_of_getElem? (i := 9) rfl)
theorem rs_nw10 {U : State} (h : rs_N U) : va_Nw (.methodLinkNest RX0 40 yX10_put RX10) U := h ("RingShadow$Carrier", 40, ⟨"RingShadow", "put", "([III)V"⟩, "RingShadow") (List.mem_of_getElem? (i := 10) rfl)
theorem rs_nw11 {U : State} (h : rs_N U) : va_Nw (.methodLinkNest RX0 64 yX10_at RX10) U := h ("RingShadow$Carrier", 64, ⟨"RingShadow", "at", "([II)I"⟩, "RingShadow") (List.mem_of_getElem? (i := 11) rfl)
theorem rs_nw12 {U : State} (h : rs_N U) : va_Nw (.methodLinkNest RX8 18 yX10_clear_ RX10) U := h ("RingShadow$Walk", 18, ⟨"RingShadow", "clear", "([J)V"⟩, "RingShadow") (List.mem_of_getElem? (i := 12) rfl)
theorem rs_nw13 {U : State} (h : rs_N U) : va_Nw (.methodLinkNest RX8 28 yX10_add RX10) U := h ("RingShadow$Walk", 28, ⟨"RingShadow", "add", "([JIJ)V"⟩, "RingShadow") (List.mem_of_getElem? (i := 13) rfl)
theorem rs_nw14 {U : State} (h : rs_N U) : va_Nw (.methodLinkNest RX8 40 yX10_at_ RX10) U := h ("RingShadow$Walk", 40, ⟨"RingShadow", "at", "([JI)J"⟩, "RingShadow") (List.mem_of_getElem? (i := 14) rfl)
theorem rs_nw15 {U : State} (h : rs_N U) : va_Nw (.methodLinkNest RX5 29 yX10_put RX10) U := h ("RingShadow$Sights", 29, ⟨"RingShadow", "put", "([III)V"⟩, "RingShadow") (List.mem_of_getElem? (i := 15) rfl)
theorem rs_nw16 {U : State} (h : rs_N U) : va_Nw (.methodLinkNest RX1 29 yX10_clear RX10) U := h ("RingShadow$Census", 29, ⟨"RingShadow", "clear", "([I)V"⟩, "RingShadow") (List.mem_of_getElem? (i := 16) rfl)
theorem rs_nw17 {U : State} (h : rs_N U) : va_Nw (.methodLinkNest RX5 33 yX10_at RX10) U := h ("RingShadow$Sights", 33, ⟨"RingShadow", "at", "([II)I"⟩, "RingShadow") (List.mem_of_getElem? (i := 17) rfl)
theorem rs_nw18 {U : State} (h : rs_N U) : va_Nw (.methodLinkNest RX1 82 yX10_at RX10) U := h ("RingShadow$Census", 82, ⟨"RingShadow", "at", "([II)I"⟩, "RingShadow") (List.mem_of_getElem? (i := 18) rfl)
theorem rs_nw19 {U : State} (h : rs_N U) : va_Nw (.methodLinkNest RX1 86 yX10_put RX10) U := h ("RingShadow$Census", 86, ⟨"RingShadow", "put", "([III)V"⟩, "RingShadow") (List.mem_of_getElem? (i := 19) rfl)
theorem rs_nw20 {U : State} (h : rs_N U) : va_Nw (.methodLinkNest RX2 18 yX10_clear_ RX10) U := h ("RingShadow$Cloud", 18, ⟨"RingShadow", "clear", "([J)V"⟩, "RingShadow") (List.mem_of_getElem? (i := 20) rfl)
theorem rs_nw21 {U : State} (h : rs_N U) : va_Nw (.methodLinkNest RX2 34 yX10_add RX10) U := h ("RingShadow$Cloud", 34, ⟨"RingShadow", "add", "([JIJ)V"⟩, "RingShadow") (List.mem_of_getElem? (i := 21) rfl)
theorem rs_nw22 {U : State} (h : rs_N U) : va_Nw (.methodLinkNest RX4 78 yX10_leftOver RX10) U := h ("RingShadow$Shadow", 78, ⟨"RingShadow", "leftOver", "(II)I"⟩, "RingShadow") (List.mem_of_getElem? (i := 22) rfl)
theorem rs_nw23 {U : State} (h : rs_N U) : va_Nw (.methodLinkNest RX7 117 yX10_leftOver RX10) U := h ("RingShadow$Story", 117, ⟨"RingShadow", "leftOver", "(II)I"⟩, "RingShadow") (List.mem_of_getElem? (i := 23) rfl)
theorem rs_nw24 {U : State} (h : rs_N U) : va_Nw (.methodLinkNest RX5 21 yX10_copy RX10) U := h ("RingShadow$Sights", 21, ⟨"RingShadow", "copy", "([I[I)V"⟩, "RingShadow") (List.mem_of_getElem? (i := 24) rfl)
def rs_Ci (l : Launch) (y : MethodName) (ws : List Cond) (rm : Room) (G : rs_G) {τ : Type} (av : List Value) (wc : va_W) (wc2 : τ → va_W) (r : Int32) : Prop := ∀ sz : Nat, Met l y ws rm (va_Pc av (rs_B G sz wc)) (va_Qi (fun (r2 : Int32) (_ : τ) => r2 = r) (fun u t => va_P G.1 vwCl (wc2 u) t.heap) (va_A wc sz)) 0 0 (va_A wc sz)
def rs_Cl (l : Launch) (y : MethodName) (ws : List Cond) (rm : Room) (G : rs_G) {τ : Type} (av : List Value) (wc : va_W) (wc2 : τ → va_W) (r : Int64) : Prop := ∀ sz : Nat, Met l y ws rm (va_Pc av (rs_B G sz wc)) (va_Ql (fun (r2 : Int64) (_ : τ) => r2 = r) (fun u t => va_P G.1 vwCl (wc2 u) t.heap) (va_A wc sz)) 0 0 (va_A wc sz)
def rs_Cv (l : Launch) (y : MethodName) (ws : List Cond) (rm : Room) (G : rs_G) {τ : Type} (av : List Value) (wc : va_W) (wc2 : τ → va_W) : Prop := ∀ sz : Nat, Met l y ws rm (va_Pc av (rs_B G sz wc)) (va_Qv (fun (_ : τ) => True) (fun u t => va_P G.1 vwCl (wc2 u) t.heap) (va_A wc sz)) 0 0 (va_A wc sz)
def rs_E (p : Program) (s : State) (m : MethodId) (c : Code) (args : Array Value) (cc : ByteArray) (maxL : Nat) (ws : List Cond) (own : String) (G : rs_G) : Prop :=
  p.tables.exec = Jvm.exec ∧ c.code = cc ∧ c.maxLocals = maxL ∧ s.vm.findClass own = some m.cls ∧ (∀ w ∈ ws, w.before args s = true) ∧ rs_K G s
set_option maxHeartbeats 4000000 in
theorem rs_enter_i {l : Launch} {y : MethodName} {ws ws2 : List Cond} {rm : Room} {G : rs_G} {τ : Type} {av : List Value} {wc : va_W} {wc2 : τ → va_W} {r : Int32} {cc : ByteArray} {maxL : Nat} {ty : FieldType} (hy : plainName y.cls = true) (hw : ws = Cond.code y cc maxL (some ty) :: ws2) (hlen : (lg_sl av).length ≤ maxL)
    (body : ∀ (p : Program) (e : Env) (s : State) (m : MethodId) (args : Array Value) (below : List Frame) (meth : Method) (c : Code) (A : Nat → Prop) (Q : State → Prop) (ls : Array Slot), rs_E p s m c args cc maxL ws y.cls G → (∀ (u : τ) (H : Heap) (locs : List Loc) (pc : Nat) (ls : Array Slot), va_P G.1 vwCl (wc2 u) H → va_S A s.heap H locs → decode cc pc = .ok (.ireturn, 1) → narrow ty (.int r) = .int r → W p l e rm s m args below meth c H locs 0 0 Q (F0 m pc ls [.int r])) → va_P G.1 vwCl wc s.heap → va_D A wc → va_S A s.heap s.heap [] → (∀ q, s.heap.size ≤ q → A q) → lv_has ls maxL (lv_args 0 av) → W p l e rm s m args below meth c s.heap [] 0 0 Q (F0 m 0 ls [])) : rs_Ci l y ws rm G av wc wc2 r := by
  intro sz
  refine Met.ofW hy hw ?_
  intro p e s m args below meth c s₁ B hml hv
  obtain ⟨rfl, hsz, hP, hK, hD0⟩ := hv
  subst hsz
  have hD := hD0.self (sz := s.heap.size)
  have hl := lv_entry av (n := maxL) hlen
  rw [lg_entry_eq]
  refine body p e s m _ below meth c (va_A wc s.heap.size) _ _ ⟨B.exec, B.bytes, hml, findClass_of_methodNamed B.named, atoms_spec B.pre, hK⟩ (fun u H locs pc ls hP1 hS1 hd hn => W.zret B.exec B.bytes B.returns hn (fun t ht hW => ⟨⟨r, u, rfl, rfl, by show va_P G.1 vwCl (wc2 u) t.heap; rw [ht]; exact hP1⟩, hS1.F ht⟩) hS1.2.2 hd B.notSynchronized) hP hD va_S.rf (fun q h => Or.inr h) hl
set_option maxHeartbeats 4000000 in
theorem rs_enter_l {l : Launch} {y : MethodName} {ws ws2 : List Cond} {rm : Room} {G : rs_G} {τ : Type} {av : List Value} {wc : va_W} {wc2 : τ → va_W} {r : Int64} {cc : ByteArray} {maxL : Nat} (hy : plainName y.cls = true) (hw : ws = Cond.code y cc maxL (some .long) :: ws2) (hlen : (lg_sl av).length ≤ maxL)
    (body : ∀ (p : Program) (e : Env) (s : State) (m : MethodId) (args : Array Value) (below : List Frame) (meth : Method) (c : Code) (A : Nat → Prop) (Q : State → Prop) (ls : Array Slot), rs_E p s m c args cc maxL ws y.cls G → (∀ (u : τ) (H : Heap) (locs : List Loc) (pc : Nat) (ls : Array Slot), va_P G.1 vwCl (wc2 u) H → va_S A s.heap H locs → decode cc pc = .ok (.lreturn, 1) → W p l e rm s m args below meth c H locs 0 0 Q (F0 m pc ls [.long r])) → va_P G.1 vwCl wc s.heap → va_D A wc → va_S A s.heap s.heap [] → (∀ q, s.heap.size ≤ q → A q) → lv_has ls maxL (lv_args 0 av) → W p l e rm s m args below meth c s.heap [] 0 0 Q (F0 m 0 ls [])) : rs_Cl l y ws rm G av wc wc2 r := by
  intro sz
  refine Met.ofW hy hw ?_
  intro p e s m args below meth c s₁ B hml hv
  obtain ⟨rfl, hsz, hP, hK, hD0⟩ := hv
  subst hsz
  have hD := hD0.self (sz := s.heap.size)
  have hl := lv_entry av (n := maxL) hlen
  rw [lg_entry_eq]
  refine body p e s m _ below meth c (va_A wc s.heap.size) _ _ ⟨B.exec, B.bytes, hml, findClass_of_methodNamed B.named, atoms_spec B.pre, hK⟩ (fun u H locs pc ls hP1 hS1 hd => W.lret B.exec B.bytes B.returns (fun t ht hW => ⟨⟨r, u, rfl, rfl, by show va_P G.1 vwCl (wc2 u) t.heap; rw [ht]; exact hP1⟩, hS1.F ht⟩) hS1.2.2 hd B.notSynchronized) hP hD va_S.rf (fun q h => Or.inr h) hl
set_option maxHeartbeats 4000000 in
theorem rs_enter_v {l : Launch} {y : MethodName} {ws ws2 : List Cond} {rm : Room} {G : rs_G} {τ : Type} {av : List Value} {wc : va_W} {wc2 : τ → va_W} {cc : ByteArray} {maxL : Nat} (hy : plainName y.cls = true) (hw : ws = Cond.code y cc maxL (none) :: ws2) (hlen : (lg_sl av).length ≤ maxL)
    (body : ∀ (p : Program) (e : Env) (s : State) (m : MethodId) (args : Array Value) (below : List Frame) (meth : Method) (c : Code) (A : Nat → Prop) (Q : State → Prop) (ls : Array Slot), rs_E p s m c args cc maxL ws y.cls G → (∀ (u : τ) (H : Heap) (locs : List Loc) (pc : Nat) (ls : Array Slot), va_P G.1 vwCl (wc2 u) H → va_S A s.heap H locs → decode cc pc = .ok (.return_, 1) → W p l e rm s m args below meth c H locs 0 0 Q (F0 m pc ls [])) → va_P G.1 vwCl wc s.heap → va_D A wc → va_S A s.heap s.heap [] → (∀ q, s.heap.size ≤ q → A q) → lv_has ls maxL (lv_args 0 av) → W p l e rm s m args below meth c s.heap [] 0 0 Q (F0 m 0 ls [])) : rs_Cv l y ws rm G av wc wc2 := by
  intro sz
  refine Met.ofW hy hw ?_
  intro p e s m args below meth c s₁ B hml hv
  obtain ⟨rfl, hsz, hP, hK, hD0⟩ := hv
  subst hsz
  have hD := hD0.self (sz := s.heap.size)
  have hl := lv_entry av (n := maxL) hlen
  rw [lg_entry_eq]
  refine body p e s m _ below meth c (va_A wc s.heap.size) _ _ ⟨B.exec, B.bytes, hml, findClass_of_methodNamed B.named, atoms_spec B.pre, hK⟩ (fun u H locs pc ls hP1 hS1 hd => W.vret B.exec B.bytes B.returns (fun t ht hW => ⟨⟨u, rfl, trivial, by show va_P G.1 vwCl (wc2 u) t.heap; rw [ht]; exact hP1⟩, hS1.F ht⟩) hS1.2.2 hd B.notSynchronized) hP hD va_S.rf (fun q h => Or.inr h) hl
set_option maxHeartbeats 4000000 in
theorem rs_calli {p : Program} {l : Launch} {e : Env} {R : Room} {s : State} {m : MethodId} {args : Array Value} {below : List Frame} {meth : Method} {c : Code} {H H0 : Heap} {locs : List Loc} {cells slots : Nat} {Q : State → Prop} {pc : Nat} {ls : Array Slot} {rest st0 : List Value} {a : Array Value} {A : Nat → Prop} {τ : Type} {r : Int32} {G : rs_G} {ws wc : va_W} {wc2 : τ → va_W}
    (hr : va_Run p l e R s m args below meth c H locs cells slots 0 0 (F0 m pc ls st0) rest (va_Qi (fun (r2 : Int32) (_ : τ) => r2 = r) (fun u t => va_P G.1 vwCl (wc2 u) t.heap) (va_A wc H.size) a) (va_A wc H.size)) (hP : va_P G.1 vwCl ws H) (hD : va_D A ws) (hS : va_S A H0 H locs) (hA : ∀ q, H0.size ≤ q → A q) (is : List Nat) (hC : is.map (fun i => ws[i]?) = wc.map some) (ws1 : τ → va_W) (hw1 : ∀ u, rs_sets ws is (wc2 u) = ws1 u) (hf : ∀ u, (wc2 u).map Prod.fst = wc.map Prod.fst)
    (kk : ∀ (u : τ) (H1 : Heap) (locs1 : List Loc), va_P G.1 vwCl (ws1 u) H1 → va_D A (ws1 u) → va_S A H0 H1 locs1 → W p l e R s m args below meth c H1 locs1 cells slots Q (F0 m (pc + 3) ls (.int r :: rest))) : W p l e R s m args below meth c H locs cells slots Q (F0 m pc ls st0) := by
  have hFc := va_free (wc := wc) hD hS hA is hC
  refine va_calli hr hS (fun q _ h => hFc q h) hFc (fun r1 u t H1 locs1 ht hvm hw hB hz1 hk1 hS1 => ?_)
  subst hw
  rw [ht] at hB
  obtain ⟨h1, h2⟩ := rs_join hP hD is hC (hf u) hk1 hB
  rw [hw1] at h1 h2
  exact kk u H1 locs1 h1 h2 hS1
set_option maxHeartbeats 4000000 in
theorem rs_callVi {p : Program} {l : Launch} {e : Env} {R : Room} {s : State} {m : MethodId} {args : Array Value} {below : List Frame} {meth : Method} {c : Code} {H H0 : Heap} {locs : List Loc} {cells slots : Nat} {Q : State → Prop} {pc nL maxL n index : Nat} {cc bytes : ByteArray} {ret : Option FieldType} {ls : Array Slot} {rest st0 As : List Value} {A : Nat → Prop} {τ : Type} {r : Int32} {G : rs_G} {ws wc : va_W} {wc2 : τ → va_W} {Ts wsy : List Cond} {own : String} {y : MethodName} {rm : Room} {C : String} {b : Addr} {q0 ci : Nat} {rc : vw_C} {fs : List Value} (S : CallFix p m c cc nL s args Ts own) (hM : rs_Ci l y wsy rm G (.ref b :: As) wc wc2 r) (cw : CallW R s args own C index y bytes maxL ret wsy rm 0 0 n) (hdg : decode cc pc = .ok (.invokevirtual index, 3)) (hK : rs_K G s) (hP : va_P G.1 vwCl ws H) (hD : va_D A ws) (hS : va_S A H0 H locs) (hA : ∀ q, H0.size ≤ q → A q) (is : List Nat) (hC : is.map (fun i => ws[i]?) = wc.map some) (hnd : va_nd is = true) (hci : vwCl[ci]? = some rc) (hCe : rc.1 = C) (he : wc[q0]? = some (b, .inr (ci, fs))) (hn : As.length = n) (hst : st0 = As.reverse ++ .ref b :: rest) (hsize : ls.size = nL) (hW : 2 * (F0 m pc ls st0).monitorRoom + (rest.map fun v => v.category).sum ≤ 8) (hf0 : cells ≤ R.cells ∧ slots ≤ R.slots) (ws1 : τ → va_W) (hw1 : ∀ u, rs_sets ws is (wc2 u) = ws1 u) (hf : ∀ u, (wc2 u).map Prod.fst = wc.map Prod.fst)
    (kk : ∀ (u : τ) (H1 : Heap) (locs1 : List Loc), va_P G.1 vwCl (ws1 u) H1 → va_D A (ws1 u) → va_S A H0 H1 locs1 → W p l e R s m args below meth c H1 locs1 cells slots Q (F0 m (pc + 3) ls (.int r :: rest))) : W p l e R s m args below meth c H locs cells slots Q (F0 m pc ls st0) := by
  have hPc := hP.sub (ws' := wc) is (by have := congrArg (List.filterMap id) hC; simpa [List.filterMap_map] using this)
  have hDc := hD.sub (ws' := wc) is hnd hC
  subst hCe
  exact rs_calli (va_runV (As := As) (rest := rest) S (hM H.size) cw (rs_preV hPc hK hDc hci he) rfl hn hsize hst hW hdg ⟨hf0.1, hf0.2⟩) hP hD hS hA is hC ws1 hw1 hf kk
set_option maxHeartbeats 4000000 in
theorem rs_callSi {p : Program} {l : Launch} {e : Env} {R : Room} {s : State} {m : MethodId} {args : Array Value} {below : List Frame} {meth : Method} {c : Code} {H H0 : Heap} {locs : List Loc} {cells slots : Nat} {Q : State → Prop} {pc nL maxL n index : Nat} {cc bytes : ByteArray} {ret : Option FieldType} {ls : Array Slot} {rest st0 As : List Value} {A : Nat → Prop} {τ : Type} {r : Int32} {G : rs_G} {ws wc : va_W} {wc2 : τ → va_W} {Ts wsy : List Cond} {own : String} {y : MethodName} {rm : Room} (S : CallFix p m c cc nL s args Ts own) (hM : rs_Ci l y wsy rm G As wc wc2 r) (cw : CallB R s args own index y bytes maxL ret wsy rm 0 0 n ∧ (Cond.static y).before args s = true) (hdg : decode cc pc = .ok (.invokestatic index, 3)) (hK : rs_K G s) (hP : va_P G.1 vwCl ws H) (hD : va_D A ws) (hS : va_S A H0 H locs) (hA : ∀ q, H0.size ≤ q → A q) (is : List Nat) (hC : is.map (fun i => ws[i]?) = wc.map some) (hnd : va_nd is = true) (hn : As.length = n) (hst : st0 = As.reverse ++ rest) (hsize : ls.size = nL) (hW : 2 * (F0 m pc ls st0).monitorRoom + (rest.map fun v => v.category).sum ≤ 8) (hf0 : cells ≤ R.cells ∧ slots ≤ R.slots) (ws1 : τ → va_W) (hw1 : ∀ u, rs_sets ws is (wc2 u) = ws1 u) (hf : ∀ u, (wc2 u).map Prod.fst = wc.map Prod.fst)
    (kk : ∀ (u : τ) (H1 : Heap) (locs1 : List Loc), va_P G.1 vwCl (ws1 u) H1 → va_D A (ws1 u) → va_S A H0 H1 locs1 → W p l e R s m args below meth c H1 locs1 cells slots Q (F0 m (pc + 3) ls (.int r :: rest))) : W p l e R s m args below meth c H locs cells slots Q (F0 m pc ls st0) := by
  have hPc := hP.sub (ws' := wc) is (by have := congrArg (List.filterMap id) hC; simpa [List.filterMap_map] using this)
  have hDc := hD.sub (ws' := wc) is hnd hC
  exact rs_calli (va_runS (As := As) (rest := rest) S (hM H.size) cw (rs_preS hPc hK hDc) rfl hn hsize hst hW hdg ⟨hf0.1, hf0.2⟩) hP hD hS hA is hC ws1 hw1 hf kk
set_option maxHeartbeats 4000000 in
theorem rs_callNi {p : Program} {l : Launch} {e : Env} {R : Room} {s : State} {m : MethodId} {args : Array Value} {below : List Frame} {meth : Method} {c : Code} {H H0 : Heap} {locs : List Loc} {cells slots : Nat} {Q : State → Prop} {pc nL maxL n index : Nat} {cc bytes : ByteArray} {ret : Option FieldType} {ls : Array Slot} {rest st0 As : List Value} {A : Nat → Prop} {τ : Type} {r : Int32} {G : rs_G} {ws wc : va_W} {wc2 : τ → va_W} {Ts wsy : List Cond} {own : String} {y : MethodName} {rm : Room} {host : String} (S : CallFix p m c cc nL s args Ts own) (hM : rs_Ci l y wsy rm G As wc wc2 r) (cw : va_CN R s args own index y host bytes maxL ret wsy rm 0 0 n ∧ (Cond.static y).before args s = true ∧ True) (hdg : decode cc pc = .ok (.invokestatic index, 3)) (hK : rs_K G s) (hP : va_P G.1 vwCl ws H) (hD : va_D A ws) (hS : va_S A H0 H locs) (hA : ∀ q, H0.size ≤ q → A q) (is : List Nat) (hC : is.map (fun i => ws[i]?) = wc.map some) (hnd : va_nd is = true) (hn : As.length = n) (hst : st0 = As.reverse ++ rest) (hsize : ls.size = nL) (hW : 2 * (F0 m pc ls st0).monitorRoom + (rest.map fun v => v.category).sum ≤ 8) (hf0 : cells ≤ R.cells ∧ slots ≤ R.slots) (ws1 : τ → va_W) (hw1 : ∀ u, rs_sets ws is (wc2 u) = ws1 u) (hf : ∀ u, (wc2 u).map Prod.fst = wc.map Prod.fst)
    (kk : ∀ (u : τ) (H1 : Heap) (locs1 : List Loc), va_P G.1 vwCl (ws1 u) H1 → va_D A (ws1 u) → va_S A H0 H1 locs1 → W p l e R s m args below meth c H1 locs1 cells slots Q (F0 m (pc + 3) ls (.int r :: rest))) : W p l e R s m args below meth c H locs cells slots Q (F0 m pc ls st0) := by
  have hPc := hP.sub (ws' := wc) is (by have := congrArg (List.filterMap id) hC; simpa [List.filterMap_map] using this)
  have hDc := hD.sub (ws' := wc) is hnd hC
  exact rs_calli (va_runSN (As := As) (rest := rest) S (hM H.size) cw (rs_preS hPc hK hDc) rfl hn hsize hst hW hdg ⟨hf0.1, hf0.2⟩) hP hD hS hA is hC ws1 hw1 hf kk
set_option maxHeartbeats 4000000 in
theorem rs_calll {p : Program} {l : Launch} {e : Env} {R : Room} {s : State} {m : MethodId} {args : Array Value} {below : List Frame} {meth : Method} {c : Code} {H H0 : Heap} {locs : List Loc} {cells slots : Nat} {Q : State → Prop} {pc : Nat} {ls : Array Slot} {rest st0 : List Value} {a : Array Value} {A : Nat → Prop} {τ : Type} {r : Int64} {G : rs_G} {ws wc : va_W} {wc2 : τ → va_W}
    (hr : va_Run p l e R s m args below meth c H locs cells slots 0 0 (F0 m pc ls st0) rest (va_Ql (fun (r2 : Int64) (_ : τ) => r2 = r) (fun u t => va_P G.1 vwCl (wc2 u) t.heap) (va_A wc H.size) a) (va_A wc H.size)) (hP : va_P G.1 vwCl ws H) (hD : va_D A ws) (hS : va_S A H0 H locs) (hA : ∀ q, H0.size ≤ q → A q) (is : List Nat) (hC : is.map (fun i => ws[i]?) = wc.map some) (ws1 : τ → va_W) (hw1 : ∀ u, rs_sets ws is (wc2 u) = ws1 u) (hf : ∀ u, (wc2 u).map Prod.fst = wc.map Prod.fst)
    (kk : ∀ (u : τ) (H1 : Heap) (locs1 : List Loc), va_P G.1 vwCl (ws1 u) H1 → va_D A (ws1 u) → va_S A H0 H1 locs1 → W p l e R s m args below meth c H1 locs1 cells slots Q (F0 m (pc + 3) ls (.long r :: rest))) : W p l e R s m args below meth c H locs cells slots Q (F0 m pc ls st0) := by
  have hFc := va_free (wc := wc) hD hS hA is hC
  refine va_calll hr hS (fun q _ h => hFc q h) hFc (fun r1 u t H1 locs1 ht hvm hw hB hz1 hk1 hS1 => ?_)
  subst hw
  rw [ht] at hB
  obtain ⟨h1, h2⟩ := rs_join hP hD is hC (hf u) hk1 hB
  rw [hw1] at h1 h2
  exact kk u H1 locs1 h1 h2 hS1
set_option maxHeartbeats 4000000 in
theorem rs_callVl {p : Program} {l : Launch} {e : Env} {R : Room} {s : State} {m : MethodId} {args : Array Value} {below : List Frame} {meth : Method} {c : Code} {H H0 : Heap} {locs : List Loc} {cells slots : Nat} {Q : State → Prop} {pc nL maxL n index : Nat} {cc bytes : ByteArray} {ret : Option FieldType} {ls : Array Slot} {rest st0 As : List Value} {A : Nat → Prop} {τ : Type} {r : Int64} {G : rs_G} {ws wc : va_W} {wc2 : τ → va_W} {Ts wsy : List Cond} {own : String} {y : MethodName} {rm : Room} {C : String} {b : Addr} {q0 ci : Nat} {rc : vw_C} {fs : List Value} (S : CallFix p m c cc nL s args Ts own) (hM : rs_Cl l y wsy rm G (.ref b :: As) wc wc2 r) (cw : CallW R s args own C index y bytes maxL ret wsy rm 0 0 n) (hdg : decode cc pc = .ok (.invokevirtual index, 3)) (hK : rs_K G s) (hP : va_P G.1 vwCl ws H) (hD : va_D A ws) (hS : va_S A H0 H locs) (hA : ∀ q, H0.size ≤ q → A q) (is : List Nat) (hC : is.map (fun i => ws[i]?) = wc.map some) (hnd : va_nd is = true) (hci : vwCl[ci]? = some rc) (hCe : rc.1 = C) (he : wc[q0]? = some (b, .inr (ci, fs))) (hn : As.length = n) (hst : st0 = As.reverse ++ .ref b :: rest) (hsize : ls.size = nL) (hW : 2 * (F0 m pc ls st0).monitorRoom + (rest.map fun v => v.category).sum ≤ 8) (hf0 : cells ≤ R.cells ∧ slots ≤ R.slots) (ws1 : τ → va_W) (hw1 : ∀ u, rs_sets ws is (wc2 u) = ws1 u) (hf : ∀ u, (wc2 u).map Prod.fst = wc.map Prod.fst)
    (kk : ∀ (u : τ) (H1 : Heap) (locs1 : List Loc), va_P G.1 vwCl (ws1 u) H1 → va_D A (ws1 u) → va_S A H0 H1 locs1 → W p l e R s m args below meth c H1 locs1 cells slots Q (F0 m (pc + 3) ls (.long r :: rest))) : W p l e R s m args below meth c H locs cells slots Q (F0 m pc ls st0) := by
  have hPc := hP.sub (ws' := wc) is (by have := congrArg (List.filterMap id) hC; simpa [List.filterMap_map] using this)
  have hDc := hD.sub (ws' := wc) is hnd hC
  subst hCe
  exact rs_calll (va_runV (As := As) (rest := rest) S (hM H.size) cw (rs_preV hPc hK hDc hci he) rfl hn hsize hst hW hdg ⟨hf0.1, hf0.2⟩) hP hD hS hA is hC ws1 hw1 hf kk
set_option maxHeartbeats 4000000 in
theorem rs_callSl {p : Program} {l : Launch} {e : Env} {R : Room} {s : State} {m : MethodId} {args : Array Value} {below : List Frame} {meth : Method} {c : Code} {H H0 : Heap} {locs : List Loc} {cells slots : Nat} {Q : State → Prop} {pc nL maxL n index : Nat} {cc bytes : ByteArray} {ret : Option FieldType} {ls : Array Slot} {rest st0 As : List Value} {A : Nat → Prop} {τ : Type} {r : Int64} {G : rs_G} {ws wc : va_W} {wc2 : τ → va_W} {Ts wsy : List Cond} {own : String} {y : MethodName} {rm : Room} (S : CallFix p m c cc nL s args Ts own) (hM : rs_Cl l y wsy rm G As wc wc2 r) (cw : CallB R s args own index y bytes maxL ret wsy rm 0 0 n ∧ (Cond.static y).before args s = true) (hdg : decode cc pc = .ok (.invokestatic index, 3)) (hK : rs_K G s) (hP : va_P G.1 vwCl ws H) (hD : va_D A ws) (hS : va_S A H0 H locs) (hA : ∀ q, H0.size ≤ q → A q) (is : List Nat) (hC : is.map (fun i => ws[i]?) = wc.map some) (hnd : va_nd is = true) (hn : As.length = n) (hst : st0 = As.reverse ++ rest) (hsize : ls.size = nL) (hW : 2 * (F0 m pc ls st0).monitorRoom + (rest.map fun v => v.category).sum ≤ 8) (hf0 : cells ≤ R.cells ∧ slots ≤ R.slots) (ws1 : τ → va_W) (hw1 : ∀ u, rs_sets ws is (wc2 u) = ws1 u) (hf : ∀ u, (wc2 u).map Prod.fst = wc.map Prod.fst)
    (kk : ∀ (u : τ) (H1 : Heap) (locs1 : List Loc), va_P G.1 vwCl (ws1 u) H1 → va_D A (ws1 u) → va_S A H0 H1 locs1 → W p l e R s m args below meth c H1 locs1 cells slots Q (F0 m (pc + 3) ls (.long r :: rest))) : W p l e R s m args below meth c H locs cells slots Q (F0 m pc ls st0) := by
  have hPc := hP.sub (ws' := wc) is (by have := congrArg (List.filterMap id) hC; simpa [List.filterMap_map] using this)
  have hDc := hD.sub (ws' := wc) is hnd hC
  exact rs_calll (va_runS (As := As) (rest := rest) S (hM H.size) cw (rs_preS hPc hK hDc) rfl hn hsize hst hW hdg ⟨hf0.1, hf0.2⟩) hP hD hS hA is hC ws1 hw1 hf kk
set_option maxHeartbeats 4000000 in
theorem rs_callNl {p : Program} {l : Launch} {e : Env} {R : Room} {s : State} {m : MethodId} {args : Array Value} {below : List Frame} {meth : Method} {c : Code} {H H0 : Heap} {locs : List Loc} {cells slots : Nat} {Q : State → Prop} {pc nL maxL n index : Nat} {cc bytes : ByteArray} {ret : Option FieldType} {ls : Array Slot} {rest st0 As : List Value} {A : Nat → Prop} {τ : Type} {r : Int64} {G : rs_G} {ws wc : va_W} {wc2 : τ → va_W} {Ts wsy : List Cond} {own : String} {y : MethodName} {rm : Room} {host : String} (S : CallFix p m c cc nL s args Ts own) (hM : rs_Cl l y wsy rm G As wc wc2 r) (cw : va_CN R s args own index y host bytes maxL ret wsy rm 0 0 n ∧ (Cond.static y).before args s = true ∧ True) (hdg : decode cc pc = .ok (.invokestatic index, 3)) (hK : rs_K G s) (hP : va_P G.1 vwCl ws H) (hD : va_D A ws) (hS : va_S A H0 H locs) (hA : ∀ q, H0.size ≤ q → A q) (is : List Nat) (hC : is.map (fun i => ws[i]?) = wc.map some) (hnd : va_nd is = true) (hn : As.length = n) (hst : st0 = As.reverse ++ rest) (hsize : ls.size = nL) (hW : 2 * (F0 m pc ls st0).monitorRoom + (rest.map fun v => v.category).sum ≤ 8) (hf0 : cells ≤ R.cells ∧ slots ≤ R.slots) (ws1 : τ → va_W) (hw1 : ∀ u, rs_sets ws is (wc2 u) = ws1 u) (hf : ∀ u, (wc2 u).map Prod.fst = wc.map Prod.fst)
    (kk : ∀ (u : τ) (H1 : Heap) (locs1 : List Loc), va_P G.1 vwCl (ws1 u) H1 → va_D A (ws1 u) → va_S A H0 H1 locs1 → W p l e R s m args below meth c H1 locs1 cells slots Q (F0 m (pc + 3) ls (.long r :: rest))) : W p l e R s m args below meth c H locs cells slots Q (F0 m pc ls st0) := by
  have hPc := hP.sub (ws' := wc) is (by have := congrArg (List.filterMap id) hC; simpa [List.filterMap_map] using this)
  have hDc := hD.sub (ws' := wc) is hnd hC
  exact rs_calll (va_runSN (As := As) (rest := rest) S (hM H.size) cw (rs_preS hPc hK hDc) rfl hn hsize hst hW hdg ⟨hf0.1, hf0.2⟩) hP hD hS hA is hC ws1 hw1 hf kk
set_option maxHeartbeats 4000000 in
theorem rs_callv {p : Program} {l : Launch} {e : Env} {R : Room} {s : State} {m : MethodId} {args : Array Value} {below : List Frame} {meth : Method} {c : Code} {H H0 : Heap} {locs : List Loc} {cells slots : Nat} {Q : State → Prop} {pc : Nat} {ls : Array Slot} {rest st0 : List Value} {a : Array Value} {A : Nat → Prop} {τ : Type} {G : rs_G} {ws wc : va_W} {wc2 : τ → va_W}
    (hr : va_Run p l e R s m args below meth c H locs cells slots 0 0 (F0 m pc ls st0) rest (va_Qv (fun (_ : τ) => True) (fun u t => va_P G.1 vwCl (wc2 u) t.heap) (va_A wc H.size) a) (va_A wc H.size)) (hP : va_P G.1 vwCl ws H) (hD : va_D A ws) (hS : va_S A H0 H locs) (hA : ∀ q, H0.size ≤ q → A q) (is : List Nat) (hC : is.map (fun i => ws[i]?) = wc.map some) (ws1 : τ → va_W) (hw1 : ∀ u, rs_sets ws is (wc2 u) = ws1 u) (hf : ∀ u, (wc2 u).map Prod.fst = wc.map Prod.fst)
    (kk : ∀ (u : τ) (H1 : Heap) (locs1 : List Loc), va_P G.1 vwCl (ws1 u) H1 → va_D A (ws1 u) → va_S A H0 H1 locs1 → W p l e R s m args below meth c H1 locs1 cells slots Q (F0 m (pc + 3) ls (rest))) : W p l e R s m args below meth c H locs cells slots Q (F0 m pc ls st0) := by
  have hFc := va_free (wc := wc) hD hS hA is hC
  refine va_callv hr hS (fun q _ h => hFc q h) hFc (fun u t H1 locs1 ht hvm hw hB hz1 hk1 hS1 => ?_)
  rw [ht] at hB
  obtain ⟨h1, h2⟩ := rs_join hP hD is hC (hf u) hk1 hB
  rw [hw1] at h1 h2
  exact kk u H1 locs1 h1 h2 hS1
set_option maxHeartbeats 4000000 in
theorem rs_callVv {p : Program} {l : Launch} {e : Env} {R : Room} {s : State} {m : MethodId} {args : Array Value} {below : List Frame} {meth : Method} {c : Code} {H H0 : Heap} {locs : List Loc} {cells slots : Nat} {Q : State → Prop} {pc nL maxL n index : Nat} {cc bytes : ByteArray} {ret : Option FieldType} {ls : Array Slot} {rest st0 As : List Value} {A : Nat → Prop} {τ : Type} {G : rs_G} {ws wc : va_W} {wc2 : τ → va_W} {Ts wsy : List Cond} {own : String} {y : MethodName} {rm : Room} {C : String} {b : Addr} {q0 ci : Nat} {rc : vw_C} {fs : List Value} (S : CallFix p m c cc nL s args Ts own) (hM : rs_Cv l y wsy rm G (.ref b :: As) wc wc2) (cw : CallW R s args own C index y bytes maxL ret wsy rm 0 0 n) (hdg : decode cc pc = .ok (.invokevirtual index, 3)) (hK : rs_K G s) (hP : va_P G.1 vwCl ws H) (hD : va_D A ws) (hS : va_S A H0 H locs) (hA : ∀ q, H0.size ≤ q → A q) (is : List Nat) (hC : is.map (fun i => ws[i]?) = wc.map some) (hnd : va_nd is = true) (hci : vwCl[ci]? = some rc) (hCe : rc.1 = C) (he : wc[q0]? = some (b, .inr (ci, fs))) (hn : As.length = n) (hst : st0 = As.reverse ++ .ref b :: rest) (hsize : ls.size = nL) (hW : 2 * (F0 m pc ls st0).monitorRoom + (rest.map fun v => v.category).sum ≤ 8) (hf0 : cells ≤ R.cells ∧ slots ≤ R.slots) (ws1 : τ → va_W) (hw1 : ∀ u, rs_sets ws is (wc2 u) = ws1 u) (hf : ∀ u, (wc2 u).map Prod.fst = wc.map Prod.fst)
    (kk : ∀ (u : τ) (H1 : Heap) (locs1 : List Loc), va_P G.1 vwCl (ws1 u) H1 → va_D A (ws1 u) → va_S A H0 H1 locs1 → W p l e R s m args below meth c H1 locs1 cells slots Q (F0 m (pc + 3) ls (rest))) : W p l e R s m args below meth c H locs cells slots Q (F0 m pc ls st0) := by
  have hPc := hP.sub (ws' := wc) is (by have := congrArg (List.filterMap id) hC; simpa [List.filterMap_map] using this)
  have hDc := hD.sub (ws' := wc) is hnd hC
  subst hCe
  exact rs_callv (va_runV (As := As) (rest := rest) S (hM H.size) cw (rs_preV hPc hK hDc hci he) rfl hn hsize hst hW hdg ⟨hf0.1, hf0.2⟩) hP hD hS hA is hC ws1 hw1 hf kk
set_option maxHeartbeats 4000000 in
theorem rs_callSv {p : Program} {l : Launch} {e : Env} {R : Room} {s : State} {m : MethodId} {args : Array Value} {below : List Frame} {meth : Method} {c : Code} {H H0 : Heap} {locs : List Loc} {cells slots : Nat} {Q : State → Prop} {pc nL maxL n index : Nat} {cc bytes : ByteArray} {ret : Option FieldType} {ls : Array Slot} {rest st0 As : List Value} {A : Nat → Prop} {τ : Type} {G : rs_G} {ws wc : va_W} {wc2 : τ → va_W} {Ts wsy : List Cond} {own : String} {y : MethodName} {rm : Room} (S : CallFix p m c cc nL s args Ts own) (hM : rs_Cv l y wsy rm G As wc wc2) (cw : CallB R s args own index y bytes maxL ret wsy rm 0 0 n ∧ (Cond.static y).before args s = true) (hdg : decode cc pc = .ok (.invokestatic index, 3)) (hK : rs_K G s) (hP : va_P G.1 vwCl ws H) (hD : va_D A ws) (hS : va_S A H0 H locs) (hA : ∀ q, H0.size ≤ q → A q) (is : List Nat) (hC : is.map (fun i => ws[i]?) = wc.map some) (hnd : va_nd is = true) (hn : As.length = n) (hst : st0 = As.reverse ++ rest) (hsize : ls.size = nL) (hW : 2 * (F0 m pc ls st0).monitorRoom + (rest.map fun v => v.category).sum ≤ 8) (hf0 : cells ≤ R.cells ∧ slots ≤ R.slots) (ws1 : τ → va_W) (hw1 : ∀ u, rs_sets ws is (wc2 u) = ws1 u) (hf : ∀ u, (wc2 u).map Prod.fst = wc.map Prod.fst)
    (kk : ∀ (u : τ) (H1 : Heap) (locs1 : List Loc), va_P G.1 vwCl (ws1 u) H1 → va_D A (ws1 u) → va_S A H0 H1 locs1 → W p l e R s m args below meth c H1 locs1 cells slots Q (F0 m (pc + 3) ls (rest))) : W p l e R s m args below meth c H locs cells slots Q (F0 m pc ls st0) := by
  have hPc := hP.sub (ws' := wc) is (by have := congrArg (List.filterMap id) hC; simpa [List.filterMap_map] using this)
  have hDc := hD.sub (ws' := wc) is hnd hC
  exact rs_callv (va_runS (As := As) (rest := rest) S (hM H.size) cw (rs_preS hPc hK hDc) rfl hn hsize hst hW hdg ⟨hf0.1, hf0.2⟩) hP hD hS hA is hC ws1 hw1 hf kk
set_option maxHeartbeats 4000000 in
theorem rs_callNv {p : Program} {l : Launch} {e : Env} {R : Room} {s : State} {m : MethodId} {args : Array Value} {below : List Frame} {meth : Method} {c : Code} {H H0 : Heap} {locs : List Loc} {cells slots : Nat} {Q : State → Prop} {pc nL maxL n index : Nat} {cc bytes : ByteArray} {ret : Option FieldType} {ls : Array Slot} {rest st0 As : List Value} {A : Nat → Prop} {τ : Type} {G : rs_G} {ws wc : va_W} {wc2 : τ → va_W} {Ts wsy : List Cond} {own : String} {y : MethodName} {rm : Room} {host : String} (S : CallFix p m c cc nL s args Ts own) (hM : rs_Cv l y wsy rm G As wc wc2) (cw : va_CN R s args own index y host bytes maxL ret wsy rm 0 0 n ∧ (Cond.static y).before args s = true ∧ True) (hdg : decode cc pc = .ok (.invokestatic index, 3)) (hK : rs_K G s) (hP : va_P G.1 vwCl ws H) (hD : va_D A ws) (hS : va_S A H0 H locs) (hA : ∀ q, H0.size ≤ q → A q) (is : List Nat) (hC : is.map (fun i => ws[i]?) = wc.map some) (hnd : va_nd is = true) (hn : As.length = n) (hst : st0 = As.reverse ++ rest) (hsize : ls.size = nL) (hW : 2 * (F0 m pc ls st0).monitorRoom + (rest.map fun v => v.category).sum ≤ 8) (hf0 : cells ≤ R.cells ∧ slots ≤ R.slots) (ws1 : τ → va_W) (hw1 : ∀ u, rs_sets ws is (wc2 u) = ws1 u) (hf : ∀ u, (wc2 u).map Prod.fst = wc.map Prod.fst)
    (kk : ∀ (u : τ) (H1 : Heap) (locs1 : List Loc), va_P G.1 vwCl (ws1 u) H1 → va_D A (ws1 u) → va_S A H0 H1 locs1 → W p l e R s m args below meth c H1 locs1 cells slots Q (F0 m (pc + 3) ls (rest))) : W p l e R s m args below meth c H locs cells slots Q (F0 m pc ls st0) := by
  have hPc := hP.sub (ws' := wc) is (by have := congrArg (List.filterMap id) hC; simpa [List.filterMap_map] using this)
  have hDc := hD.sub (ws' := wc) is hnd hC
  exact rs_callv (va_runSN (As := As) (rest := rest) S (hM H.size) cw (rs_preS hPc hK hDc) rfl hn hsize hst hW hdg ⟨hf0.1, hf0.2⟩) hP hD hS hA is hC ws1 hw1 hf kk
def rs_loop {S R : Type} (body : S → Option (S ⊕ R)) : Nat → S → Option R
  | 0, _ => none
  | n + 1, s => (body s).bind (fun o => match o with
    | .inl s2 => rs_loop body n s2
    | .inr r => some r)
theorem rs_loopW {S R : Type} {body : S → Option (S ⊕ R)} {Wd : S → Prop} {X : R} (step : ∀ s o, body s = some o → (∀ s2, o = .inl s2 → Wd s2) → (∀ r, o = .inr r → X = r) → Wd s) : ∀ (N : Nat) (s : S), rs_loop body N s = some X → Wd s
  | 0, s, h => by cases h
  | n + 1, s, h => by
    unfold rs_loop at h
    cases hb : body s with
    | none => rw [hb] at h; cases h
    | some o =>
      rw [hb] at h
      cases o with
      | inl s2 => exact step s _ hb (fun s3 e => by cases e; exact rs_loopW step n s2 h) (fun r e => by cases e)
      | inr r => exact step s _ hb (fun s3 e => by cases e) (fun r2 e => by cases e; exact (Option.some.inj h).symm)
theorem rs_loop_iter {S R : Type} {body : S → Option (S ⊕ R)} {r : R} (t : Nat → S) : ∀ (m : Nat) (N : Nat), m < N → (∀ i, i < m → body (t i) = some (.inl (t (i + 1)))) → body (t m) = some (.inr r) → ∀ (k : Nat), k ≤ m → rs_loop body (N - k) (t k) = some r := by
  intro m N hN hs he k hk
  obtain ⟨d, hd⟩ : ∃ d, d = m - k := ⟨_, rfl⟩
  induction d generalizing k with
  | zero =>
    have : k = m := by omega
    subst this
    obtain ⟨q, hq⟩ : ∃ q, N - k = q + 1 := ⟨N - k - 1, by omega⟩
    rw [hq]
    unfold rs_loop
    rw [he]
    rfl
  | succ d ih =>
    obtain ⟨q, hq⟩ : ∃ q, N - k = q + 1 := ⟨N - k - 1, by omega⟩
    have h1 := ih (k + 1) (by omega) (by omega)
    rw [hq]
    unfold rs_loop
    rw [hs k (by omega)]
    have : N - (k + 1) = q := by omega
    rw [this] at h1
    exact h1
theorem rs_loop_run {S R : Type} {body : S → Option (S ⊕ R)} {r : R} (t : Nat → S) (m : Nat) {N : Nat} {s0 : S} (h0 : s0 = t 0) (hN : m < N) (hs : ∀ i, i < m → body (t i) = some (.inl (t (i + 1)))) (he : body (t m) = some (.inr r)) : rs_loop body N s0 = some r := by
  have := rs_loop_iter t m N hN hs he 0 (Nat.zero_le _)
  rw [h0]
  simpa using this
def rs_lt {α β : Type} (v : α) (k : α → β) : β := k v
theorem rs_gd {P : Prop} [Decidable P] {α : Type} {a : Option α} {X : α} (h : (if P then none else a) = some X) : ¬ P ∧ a = some X := by
  by_cases hP : P
  · rw [if_pos hP] at h; cases h
  · rw [if_neg hP] at h; exact ⟨hP, h⟩
theorem rs_ga {P : Prop} [Decidable P] {α : Type} {a : Option α} {X : α} (h : (if P then a else none) = some X) : P ∧ a = some X := by
  by_cases hP : P
  · rw [if_pos hP] at h; exact ⟨hP, h⟩
  · rw [if_neg hP] at h; cases h
theorem rs_pos {P : Prop} {hd : Decidable P} {α : Type} {a b X : α} (hP : P) (h : (@ite α P hd a b) = X) : a = X := (if_pos hP).symm.trans h
theorem rs_neg {P : Prop} {hd : Decidable P} {α : Type} {a b X : α} (hP : ¬ P) (h : (@ite α P hd a b) = X) : b = X := (if_neg hP).symm.trans h
def rs_pm (q1 q2 a b : Nat) : Prop := (q1 = a ∧ q2 = b) ∨ (q1 = b ∧ q2 = a)
theorem rs_pm_rf {a b : Nat} : rs_pm a b a b := Or.inl ⟨rfl, rfl⟩
theorem rs_pm_swap {q1 q2 a b : Nat} (h : rs_pm q1 q2 a b) : rs_pm q2 q1 a b := by
  rcases h with ⟨h1, h2⟩ | ⟨h1, h2⟩
  · exact Or.inr ⟨h2, h1⟩
  · exact Or.inl ⟨h2, h1⟩
theorem rs_topi {p : Program} {l : Launch} {e : Env} {R : Room} {s : State} {m : MethodId} {args : Array Value} {below : List Frame} {meth : Method} {c : Code} {H : Heap} {locs : List Loc} {cells slots : Nat} {Q : State → Prop} {pc : Nat} {ls : Array Slot} {rest : List Value} {x : Int32} {β : Type} {k : Int32 → Option β} {X : β} (h : rs_lt x k = some X) (kk : ∀ y : Int32, k y = some X → W p l e R s m args below meth c H locs cells slots Q (F0 m pc ls (.int y :: rest))) : W p l e R s m args below meth c H locs cells slots Q (F0 m pc ls (.int x :: rest)) := kk x h
theorem rs_topl {p : Program} {l : Launch} {e : Env} {R : Room} {s : State} {m : MethodId} {args : Array Value} {below : List Frame} {meth : Method} {c : Code} {H : Heap} {locs : List Loc} {cells slots : Nat} {Q : State → Prop} {pc : Nat} {ls : Array Slot} {rest : List Value} {x : Int64} {β : Type} {k : Int64 → Option β} {X : β} (h : rs_lt x k = some X) (kk : ∀ y : Int64, k y = some X → W p l e R s m args below meth c H locs cells slots Q (F0 m pc ls (.long y :: rest))) : W p l e R s m args below meth c H locs cells slots Q (F0 m pc ls (.long x :: rest)) := kk x h
theorem rs_narz {v : Int32} (h : vp_nar .boolean v = v) : narrow .boolean (.int v) = .int v := congrArg Value.int h
theorem rs_narc {v : Int32} (h : vp_nar .char v = v) : narrow .char (.int v) = .int v := congrArg Value.int h
def rs_b0 {ζ : Type} (o : Option Unit) (k : Option ζ) : Option ζ := match o with
  | none => none
  | some _ => k
theorem rs_b0s {ζ : Type} {o : Option Unit} {k : Option ζ} {Z : ζ} (h : rs_b0 o k = some Z) : ∃ X, o = some X ∧ (X = () → k = some Z) := by
  cases o with
  | none => cases h
  | some a => exact ⟨a, rfl, fun _ => h⟩
def rs_m0 {ζ : Type} (o : Option (Unit ⊕ ζ)) (k : Option ζ) : Option ζ := match o with
  | none => none
  | some (.inl _) => k
  | some (.inr z) => some z
theorem rs_m0s {ζ : Type} {o : Option (Unit ⊕ ζ)} {k : Option ζ} {Z : ζ} (h : rs_m0 o k = some Z) : ∃ X, o = some X ∧ (X = .inl () → k = some Z) ∧ (∀ r, X = .inr r → some r = some Z) := by
  cases o with
  | none => cases h
  | some a =>
    cases a with
    | inl a => exact ⟨_, rfl, fun _ => h, fun r e => by cases e⟩
    | inr r => exact ⟨_, rfl, fun e => (by cases e), fun r2 e => by cases e; exact h⟩
def rs_b1 {α1 ζ : Type} (o : Option α1) (k : α1 → Option ζ) : Option ζ := match o with
  | none => none
  | some a1 => k a1
theorem rs_b1s {α1 ζ : Type} {o : Option α1} {k : α1 → Option ζ} {Z : ζ} (h : rs_b1 o k = some Z) : ∃ X, o = some X ∧ (∀ a1, X = a1 → k a1 = some Z) := by
  cases o with
  | none => cases h
  | some a => exact ⟨a, rfl, fun a1 e => by subst e; exact h⟩
def rs_m1 {α1 ζ : Type} (o : Option (α1 ⊕ ζ)) (k : α1 → Option ζ) : Option ζ := match o with
  | none => none
  | some (.inl a1) => k a1
  | some (.inr z) => some z
theorem rs_m1s {α1 ζ : Type} {o : Option (α1 ⊕ ζ)} {k : α1 → Option ζ} {Z : ζ} (h : rs_m1 o k = some Z) : ∃ X, o = some X ∧ (∀ a1, X = .inl a1 → k a1 = some Z) ∧ (∀ r, X = .inr r → some r = some Z) := by
  cases o with
  | none => cases h
  | some a =>
    cases a with
    | inl a => exact ⟨_, rfl, fun a1 e => (by cases e; exact h), fun r e => (by cases e)⟩
    | inr r => exact ⟨_, rfl, fun a1 e => (by cases e), fun r2 e => (by cases e; exact h)⟩
def rs_l1 {α1 ρ : Type} (body : α1 → Option (α1 ⊕ ρ)) (N : Nat) (a1 : α1) : Option ρ := rs_loop (fun s : α1 => body s) N a1
theorem rs_l1W {α1 ρ : Type} {body : α1 → Option (α1 ⊕ ρ)} {Wd : α1 → Prop} {X : ρ} (step : ∀ a1 o, body a1 = some o → (∀ a12, o = .inl a12 → Wd a12) → (∀ r, o = .inr r → X = r) → Wd a1) (N : Nat) (a1 : α1) (h : rs_l1 body N a1 = some X) : Wd a1 :=
  rs_loopW (body := fun s : α1 => body s) (Wd := fun s => Wd s) (fun s o hb h1 h2 => step s o hb (fun a12 e => h1 _ e) h2) N a1 h
def rs_b2 {α1 α2 ζ : Type} (o : Option (α1 × α2)) (k : α1 → α2 → Option ζ) : Option ζ := match o with
  | none => none
  | some (a1, a2) => k a1 a2
theorem rs_b2s {α1 α2 ζ : Type} {o : Option (α1 × α2)} {k : α1 → α2 → Option ζ} {Z : ζ} (h : rs_b2 o k = some Z) : ∃ X, o = some X ∧ (∀ a1 a2, X = (a1, a2) → k a1 a2 = some Z) := by
  cases o with
  | none => cases h
  | some a => exact ⟨a, rfl, fun a1 a2 e => by subst e; exact h⟩
def rs_m2 {α1 α2 ζ : Type} (o : Option ((α1 × α2) ⊕ ζ)) (k : α1 → α2 → Option ζ) : Option ζ := match o with
  | none => none
  | some (.inl (a1, a2)) => k a1 a2
  | some (.inr z) => some z
theorem rs_m2s {α1 α2 ζ : Type} {o : Option ((α1 × α2) ⊕ ζ)} {k : α1 → α2 → Option ζ} {Z : ζ} (h : rs_m2 o k = some Z) : ∃ X, o = some X ∧ (∀ a1 a2, X = .inl (a1, a2) → k a1 a2 = some Z) ∧ (∀ r, X = .inr r → some r = some Z) := by
  cases o with
  | none => cases h
  | some a =>
    cases a with
    | inl a => exact ⟨_, rfl, fun a1 a2 e => (by cases e; exact h), fun r e => (by cases e)⟩
    | inr r => exact ⟨_, rfl, fun a1 a2 e => (by cases e), fun r2 e => (by cases e; exact h)⟩
def rs_l2 {α1 α2 ρ : Type} (body : α1 → α2 → Option ((α1 × α2) ⊕ ρ)) (N : Nat) (a1 : α1) (a2 : α2) : Option ρ := rs_loop (fun s : (α1 × α2) => body s.1 s.2) N (a1, a2)
theorem rs_l2W {α1 α2 ρ : Type} {body : α1 → α2 → Option ((α1 × α2) ⊕ ρ)} {Wd : α1 → α2 → Prop} {X : ρ} (step : ∀ a1 a2 o, body a1 a2 = some o → (∀ a12 a22, o = .inl (a12, a22) → Wd a12 a22) → (∀ r, o = .inr r → X = r) → Wd a1 a2) (N : Nat) (a1 : α1) (a2 : α2) (h : rs_l2 body N a1 a2 = some X) : Wd a1 a2 :=
  rs_loopW (body := fun s : (α1 × α2) => body s.1 s.2) (Wd := fun s => Wd s.1 s.2) (fun s o hb h1 h2 => step s.1 s.2 o hb (fun a12 a22 e => h1 _ e) h2) N (a1, a2) h
def rs_b3 {α1 α2 α3 ζ : Type} (o : Option (α1 × α2 × α3)) (k : α1 → α2 → α3 → Option ζ) : Option ζ := match o with
  | none => none
  | some (a1, a2, a3) => k a1 a2 a3
theorem rs_b3s {α1 α2 α3 ζ : Type} {o : Option (α1 × α2 × α3)} {k : α1 → α2 → α3 → Option ζ} {Z : ζ} (h : rs_b3 o k = some Z) : ∃ X, o = some X ∧ (∀ a1 a2 a3, X = (a1, a2, a3) → k a1 a2 a3 = some Z) := by
  cases o with
  | none => cases h
  | some a => exact ⟨a, rfl, fun a1 a2 a3 e => by subst e; exact h⟩
def rs_m3 {α1 α2 α3 ζ : Type} (o : Option ((α1 × α2 × α3) ⊕ ζ)) (k : α1 → α2 → α3 → Option ζ) : Option ζ := match o with
  | none => none
  | some (.inl (a1, a2, a3)) => k a1 a2 a3
  | some (.inr z) => some z
theorem rs_m3s {α1 α2 α3 ζ : Type} {o : Option ((α1 × α2 × α3) ⊕ ζ)} {k : α1 → α2 → α3 → Option ζ} {Z : ζ} (h : rs_m3 o k = some Z) : ∃ X, o = some X ∧ (∀ a1 a2 a3, X = .inl (a1, a2, a3) → k a1 a2 a3 = some Z) ∧ (∀ r, X = .inr r → some r = some Z) := by
  cases o with
  | none => cases h
  | some a =>
    cases a with
    | inl a => exact ⟨_, rfl, fun a1 a2 a3 e => (by cases e; exact h), fun r e => (by cases e)⟩
    | inr r => exact ⟨_, rfl, fun a1 a2 a3 e => (by cases e), fun r2 e => (by cases e; exact h)⟩
def rs_l3 {α1 α2 α3 ρ : Type} (body : α1 → α2 → α3 → Option ((α1 × α2 × α3) ⊕ ρ)) (N : Nat) (a1 : α1) (a2 : α2) (a3 : α3) : Option ρ := rs_loop (fun s : (α1 × α2 × α3) => body s.1 s.2.1 s.2.2) N (a1, a2, a3)
theorem rs_l3W {α1 α2 α3 ρ : Type} {body : α1 → α2 → α3 → Option ((α1 × α2 × α3) ⊕ ρ)} {Wd : α1 → α2 → α3 → Prop} {X : ρ} (step : ∀ a1 a2 a3 o, body a1 a2 a3 = some o → (∀ a12 a22 a32, o = .inl (a12, a22, a32) → Wd a12 a22 a32) → (∀ r, o = .inr r → X = r) → Wd a1 a2 a3) (N : Nat) (a1 : α1) (a2 : α2) (a3 : α3) (h : rs_l3 body N a1 a2 a3 = some X) : Wd a1 a2 a3 :=
  rs_loopW (body := fun s : (α1 × α2 × α3) => body s.1 s.2.1 s.2.2) (Wd := fun s => Wd s.1 s.2.1 s.2.2) (fun s o hb h1 h2 => step s.1 s.2.1 s.2.2 o hb (fun a12 a22 a32 e => h1 _ e) h2) N (a1, a2, a3) h
def rs_b4 {α1 α2 α3 α4 ζ : Type} (o : Option (α1 × α2 × α3 × α4)) (k : α1 → α2 → α3 → α4 → Option ζ) : Option ζ := match o with
  | none => none
  | some (a1, a2, a3, a4) => k a1 a2 a3 a4
theorem rs_b4s {α1 α2 α3 α4 ζ : Type} {o : Option (α1 × α2 × α3 × α4)} {k : α1 → α2 → α3 → α4 → Option ζ} {Z : ζ} (h : rs_b4 o k = some Z) : ∃ X, o = some X ∧ (∀ a1 a2 a3 a4, X = (a1, a2, a3, a4) → k a1 a2 a3 a4 = some Z) := by
  cases o with
  | none => cases h
  | some a => exact ⟨a, rfl, fun a1 a2 a3 a4 e => by subst e; exact h⟩
def rs_m4 {α1 α2 α3 α4 ζ : Type} (o : Option ((α1 × α2 × α3 × α4) ⊕ ζ)) (k : α1 → α2 → α3 → α4 → Option ζ) : Option ζ := match o with
  | none => none
  | some (.inl (a1, a2, a3, a4)) => k a1 a2 a3 a4
  | some (.inr z) => some z
theorem rs_m4s {α1 α2 α3 α4 ζ : Type} {o : Option ((α1 × α2 × α3 × α4) ⊕ ζ)} {k : α1 → α2 → α3 → α4 → Option ζ} {Z : ζ} (h : rs_m4 o k = some Z) : ∃ X, o = some X ∧ (∀ a1 a2 a3 a4, X = .inl (a1, a2, a3, a4) → k a1 a2 a3 a4 = some Z) ∧ (∀ r, X = .inr r → some r = some Z) := by
  cases o with
  | none => cases h
  | some a =>
    cases a with
    | inl a => exact ⟨_, rfl, fun a1 a2 a3 a4 e => (by cases e; exact h), fun r e => (by cases e)⟩
    | inr r => exact ⟨_, rfl, fun a1 a2 a3 a4 e => (by cases e), fun r2 e => (by cases e; exact h)⟩
def rs_l4 {α1 α2 α3 α4 ρ : Type} (body : α1 → α2 → α3 → α4 → Option ((α1 × α2 × α3 × α4) ⊕ ρ)) (N : Nat) (a1 : α1) (a2 : α2) (a3 : α3) (a4 : α4) : Option ρ := rs_loop (fun s : (α1 × α2 × α3 × α4) => body s.1 s.2.1 s.2.2.1 s.2.2.2) N (a1, a2, a3, a4)
theorem rs_l4W {α1 α2 α3 α4 ρ : Type} {body : α1 → α2 → α3 → α4 → Option ((α1 × α2 × α3 × α4) ⊕ ρ)} {Wd : α1 → α2 → α3 → α4 → Prop} {X : ρ} (step : ∀ a1 a2 a3 a4 o, body a1 a2 a3 a4 = some o → (∀ a12 a22 a32 a42, o = .inl (a12, a22, a32, a42) → Wd a12 a22 a32 a42) → (∀ r, o = .inr r → X = r) → Wd a1 a2 a3 a4) (N : Nat) (a1 : α1) (a2 : α2) (a3 : α3) (a4 : α4) (h : rs_l4 body N a1 a2 a3 a4 = some X) : Wd a1 a2 a3 a4 :=
  rs_loopW (body := fun s : (α1 × α2 × α3 × α4) => body s.1 s.2.1 s.2.2.1 s.2.2.2) (Wd := fun s => Wd s.1 s.2.1 s.2.2.1 s.2.2.2) (fun s o hb h1 h2 => step s.1 s.2.1 s.2.2.1 s.2.2.2 o hb (fun a12 a22 a32 a42 e => h1 _ e) h2) N (a1, a2, a3, a4) h
def rs_b5 {α1 α2 α3 α4 α5 ζ : Type} (o : Option (α1 × α2 × α3 × α4 × α5)) (k : α1 → α2 → α3 → α4 → α5 → Option ζ) : Option ζ := match o with
  | none => none
  | some (a1, a2, a3, a4, a5) => k a1 a2 a3 a4 a5
theorem rs_b5s {α1 α2 α3 α4 α5 ζ : Type} {o : Option (α1 × α2 × α3 × α4 × α5)} {k : α1 → α2 → α3 → α4 → α5 → Option ζ} {Z : ζ} (h : rs_b5 o k = some Z) : ∃ X, o = some X ∧ (∀ a1 a2 a3 a4 a5, X = (a1, a2, a3, a4, a5) → k a1 a2 a3 a4 a5 = some Z) := by
  cases o with
  | none => cases h
  | some a => exact ⟨a, rfl, fun a1 a2 a3 a4 a5 e => by subst e; exact h⟩
def rs_m5 {α1 α2 α3 α4 α5 ζ : Type} (o : Option ((α1 × α2 × α3 × α4 × α5) ⊕ ζ)) (k : α1 → α2 → α3 → α4 → α5 → Option ζ) : Option ζ := match o with
  | none => none
  | some (.inl (a1, a2, a3, a4, a5)) => k a1 a2 a3 a4 a5
  | some (.inr z) => some z
theorem rs_m5s {α1 α2 α3 α4 α5 ζ : Type} {o : Option ((α1 × α2 × α3 × α4 × α5) ⊕ ζ)} {k : α1 → α2 → α3 → α4 → α5 → Option ζ} {Z : ζ} (h : rs_m5 o k = some Z) : ∃ X, o = some X ∧ (∀ a1 a2 a3 a4 a5, X = .inl (a1, a2, a3, a4, a5) → k a1 a2 a3 a4 a5 = some Z) ∧ (∀ r, X = .inr r → some r = some Z) := by
  cases o with
  | none => cases h
  | some a =>
    cases a with
    | inl a => exact ⟨_, rfl, fun a1 a2 a3 a4 a5 e => (by cases e; exact h), fun r e => (by cases e)⟩
    | inr r => exact ⟨_, rfl, fun a1 a2 a3 a4 a5 e => (by cases e), fun r2 e => (by cases e; exact h)⟩
def rs_l5 {α1 α2 α3 α4 α5 ρ : Type} (body : α1 → α2 → α3 → α4 → α5 → Option ((α1 × α2 × α3 × α4 × α5) ⊕ ρ)) (N : Nat) (a1 : α1) (a2 : α2) (a3 : α3) (a4 : α4) (a5 : α5) : Option ρ := rs_loop (fun s : (α1 × α2 × α3 × α4 × α5) => body s.1 s.2.1 s.2.2.1 s.2.2.2.1 s.2.2.2.2) N (a1, a2, a3, a4, a5)
theorem rs_l5W {α1 α2 α3 α4 α5 ρ : Type} {body : α1 → α2 → α3 → α4 → α5 → Option ((α1 × α2 × α3 × α4 × α5) ⊕ ρ)} {Wd : α1 → α2 → α3 → α4 → α5 → Prop} {X : ρ} (step : ∀ a1 a2 a3 a4 a5 o, body a1 a2 a3 a4 a5 = some o → (∀ a12 a22 a32 a42 a52, o = .inl (a12, a22, a32, a42, a52) → Wd a12 a22 a32 a42 a52) → (∀ r, o = .inr r → X = r) → Wd a1 a2 a3 a4 a5) (N : Nat) (a1 : α1) (a2 : α2) (a3 : α3) (a4 : α4) (a5 : α5) (h : rs_l5 body N a1 a2 a3 a4 a5 = some X) : Wd a1 a2 a3 a4 a5 :=
  rs_loopW (body := fun s : (α1 × α2 × α3 × α4 × α5) => body s.1 s.2.1 s.2.2.1 s.2.2.2.1 s.2.2.2.2) (Wd := fun s => Wd s.1 s.2.1 s.2.2.1 s.2.2.2.1 s.2.2.2.2) (fun s o hb h1 h2 => step s.1 s.2.1 s.2.2.1 s.2.2.2.1 s.2.2.2.2 o hb (fun a12 a22 a32 a42 a52 e => h1 _ e) h2) N (a1, a2, a3, a4, a5) h
def rs_b6 {α1 α2 α3 α4 α5 α6 ζ : Type} (o : Option (α1 × α2 × α3 × α4 × α5 × α6)) (k : α1 → α2 → α3 → α4 → α5 → α6 → Option ζ) : Option ζ := match o with
  | none => none
  | some (a1, a2, a3, a4, a5, a6) => k a1 a2 a3 a4 a5 a6
theorem rs_b6s {α1 α2 α3 α4 α5 α6 ζ : Type} {o : Option (α1 × α2 × α3 × α4 × α5 × α6)} {k : α1 → α2 → α3 → α4 → α5 → α6 → Option ζ} {Z : ζ} (h : rs_b6 o k = some Z) : ∃ X, o = some X ∧ (∀ a1 a2 a3 a4 a5 a6, X = (a1, a2, a3, a4, a5, a6) → k a1 a2 a3 a4 a5 a6 = some Z) := by
  cases o with
  | none => cases h
  | some a => exact ⟨a, rfl, fun a1 a2 a3 a4 a5 a6 e => by subst e; exact h⟩
def rs_m6 {α1 α2 α3 α4 α5 α6 ζ : Type} (o : Option ((α1 × α2 × α3 × α4 × α5 × α6) ⊕ ζ)) (k : α1 → α2 → α3 → α4 → α5 → α6 → Option ζ) : Option ζ := match o with
  | none => none
  | some (.inl (a1, a2, a3, a4, a5, a6)) => k a1 a2 a3 a4 a5 a6
  | some (.inr z) => some z
theorem rs_m6s {α1 α2 α3 α4 α5 α6 ζ : Type} {o : Option ((α1 × α2 × α3 × α4 × α5 × α6) ⊕ ζ)} {k : α1 → α2 → α3 → α4 → α5 → α6 → Option ζ} {Z : ζ} (h : rs_m6 o k = some Z) : ∃ X, o = some X ∧ (∀ a1 a2 a3 a4 a5 a6, X = .inl (a1, a2, a3, a4, a5, a6) → k a1 a2 a3 a4 a5 a6 = some Z) ∧ (∀ r, X = .inr r → some r = some Z) := by
  cases o with
  | none => cases h
  | some a =>
    cases a with
    | inl a => exact ⟨_, rfl, fun a1 a2 a3 a4 a5 a6 e => (by cases e; exact h), fun r e => (by cases e)⟩
    | inr r => exact ⟨_, rfl, fun a1 a2 a3 a4 a5 a6 e => (by cases e), fun r2 e => (by cases e; exact h)⟩
def rs_l6 {α1 α2 α3 α4 α5 α6 ρ : Type} (body : α1 → α2 → α3 → α4 → α5 → α6 → Option ((α1 × α2 × α3 × α4 × α5 × α6) ⊕ ρ)) (N : Nat) (a1 : α1) (a2 : α2) (a3 : α3) (a4 : α4) (a5 : α5) (a6 : α6) : Option ρ := rs_loop (fun s : (α1 × α2 × α3 × α4 × α5 × α6) => body s.1 s.2.1 s.2.2.1 s.2.2.2.1 s.2.2.2.2.1 s.2.2.2.2.2) N (a1, a2, a3, a4, a5, a6)
theorem rs_l6W {α1 α2 α3 α4 α5 α6 ρ : Type} {body : α1 → α2 → α3 → α4 → α5 → α6 → Option ((α1 × α2 × α3 × α4 × α5 × α6) ⊕ ρ)} {Wd : α1 → α2 → α3 → α4 → α5 → α6 → Prop} {X : ρ} (step : ∀ a1 a2 a3 a4 a5 a6 o, body a1 a2 a3 a4 a5 a6 = some o → (∀ a12 a22 a32 a42 a52 a62, o = .inl (a12, a22, a32, a42, a52, a62) → Wd a12 a22 a32 a42 a52 a62) → (∀ r, o = .inr r → X = r) → Wd a1 a2 a3 a4 a5 a6) (N : Nat) (a1 : α1) (a2 : α2) (a3 : α3) (a4 : α4) (a5 : α5) (a6 : α6) (h : rs_l6 body N a1 a2 a3 a4 a5 a6 = some X) : Wd a1 a2 a3 a4 a5 a6 :=
  rs_loopW (body := fun s : (α1 × α2 × α3 × α4 × α5 × α6) => body s.1 s.2.1 s.2.2.1 s.2.2.2.1 s.2.2.2.2.1 s.2.2.2.2.2) (Wd := fun s => Wd s.1 s.2.1 s.2.2.1 s.2.2.2.1 s.2.2.2.2.1 s.2.2.2.2.2) (fun s o hb h1 h2 => step s.1 s.2.1 s.2.2.1 s.2.2.2.1 s.2.2.2.2.1 s.2.2.2.2.2 o hb (fun a12 a22 a32 a42 a52 a62 e => h1 _ e) h2) N (a1, a2, a3, a4, a5, a6) h
def rs_b7 {α1 α2 α3 α4 α5 α6 α7 ζ : Type} (o : Option (α1 × α2 × α3 × α4 × α5 × α6 × α7)) (k : α1 → α2 → α3 → α4 → α5 → α6 → α7 → Option ζ) : Option ζ := match o with
  | none => none
  | some (a1, a2, a3, a4, a5, a6, a7) => k a1 a2 a3 a4 a5 a6 a7
theorem rs_b7s {α1 α2 α3 α4 α5 α6 α7 ζ : Type} {o : Option (α1 × α2 × α3 × α4 × α5 × α6 × α7)} {k : α1 → α2 → α3 → α4 → α5 → α6 → α7 → Option ζ} {Z : ζ} (h : rs_b7 o k = some Z) : ∃ X, o = some X ∧ (∀ a1 a2 a3 a4 a5 a6 a7, X = (a1, a2, a3, a4, a5, a6, a7) → k a1 a2 a3 a4 a5 a6 a7 = some Z) := by
  cases o with
  | none => cases h
  | some a => exact ⟨a, rfl, fun a1 a2 a3 a4 a5 a6 a7 e => by subst e; exact h⟩
def rs_m7 {α1 α2 α3 α4 α5 α6 α7 ζ : Type} (o : Option ((α1 × α2 × α3 × α4 × α5 × α6 × α7) ⊕ ζ)) (k : α1 → α2 → α3 → α4 → α5 → α6 → α7 → Option ζ) : Option ζ := match o with
  | none => none
  | some (.inl (a1, a2, a3, a4, a5, a6, a7)) => k a1 a2 a3 a4 a5 a6 a7
  | some (.inr z) => some z
theorem rs_m7s {α1 α2 α3 α4 α5 α6 α7 ζ : Type} {o : Option ((α1 × α2 × α3 × α4 × α5 × α6 × α7) ⊕ ζ)} {k : α1 → α2 → α3 → α4 → α5 → α6 → α7 → Option ζ} {Z : ζ} (h : rs_m7 o k = some Z) : ∃ X, o = some X ∧ (∀ a1 a2 a3 a4 a5 a6 a7, X = .inl (a1, a2, a3, a4, a5, a6, a7) → k a1 a2 a3 a4 a5 a6 a7 = some Z) ∧ (∀ r, X = .inr r → some r = some Z) := by
  cases o with
  | none => cases h
  | some a =>
    cases a with
    | inl a => exact ⟨_, rfl, fun a1 a2 a3 a4 a5 a6 a7 e => (by cases e; exact h), fun r e => (by cases e)⟩
    | inr r => exact ⟨_, rfl, fun a1 a2 a3 a4 a5 a6 a7 e => (by cases e), fun r2 e => (by cases e; exact h)⟩
def rs_l7 {α1 α2 α3 α4 α5 α6 α7 ρ : Type} (body : α1 → α2 → α3 → α4 → α5 → α6 → α7 → Option ((α1 × α2 × α3 × α4 × α5 × α6 × α7) ⊕ ρ)) (N : Nat) (a1 : α1) (a2 : α2) (a3 : α3) (a4 : α4) (a5 : α5) (a6 : α6) (a7 : α7) : Option ρ := rs_loop (fun s : (α1 × α2 × α3 × α4 × α5 × α6 × α7) => body s.1 s.2.1 s.2.2.1 s.2.2.2.1 s.2.2.2.2.1 s.2.2.2.2.2.1 s.2.2.2.2.2.2) N (a1, a2, a3, a4, a5, a6, a7)
theorem rs_l7W {α1 α2 α3 α4 α5 α6 α7 ρ : Type} {body : α1 → α2 → α3 → α4 → α5 → α6 → α7 → Option ((α1 × α2 × α3 × α4 × α5 × α6 × α7) ⊕ ρ)} {Wd : α1 → α2 → α3 → α4 → α5 → α6 → α7 → Prop} {X : ρ} (step : ∀ a1 a2 a3 a4 a5 a6 a7 o, body a1 a2 a3 a4 a5 a6 a7 = some o → (∀ a12 a22 a32 a42 a52 a62 a72, o = .inl (a12, a22, a32, a42, a52, a62, a72) → Wd a12 a22 a32 a42 a52 a62 a72) → (∀ r, o = .inr r → X = r) → Wd a1 a2 a3 a4 a5 a6 a7) (N : Nat) (a1 : α1) (a2 : α2) (a3 : α3) (a4 : α4) (a5 : α5) (a6 : α6) (a7 : α7) (h : rs_l7 body N a1 a2 a3 a4 a5 a6 a7 = some X) : Wd a1 a2 a3 a4 a5 a6 a7 :=
  rs_loopW (body := fun s : (α1 × α2 × α3 × α4 × α5 × α6 × α7) => body s.1 s.2.1 s.2.2.1 s.2.2.2.1 s.2.2.2.2.1 s.2.2.2.2.2.1 s.2.2.2.2.2.2) (Wd := fun s => Wd s.1 s.2.1 s.2.2.1 s.2.2.2.1 s.2.2.2.2.1 s.2.2.2.2.2.1 s.2.2.2.2.2.2) (fun s o hb h1 h2 => step s.1 s.2.1 s.2.2.1 s.2.2.2.1 s.2.2.2.2.1 s.2.2.2.2.2.1 s.2.2.2.2.2.2 o hb (fun a12 a22 a32 a42 a52 a62 a72 e => h1 _ e) h2) N (a1, a2, a3, a4, a5, a6, a7) h
def rs_b8 {α1 α2 α3 α4 α5 α6 α7 α8 ζ : Type} (o : Option (α1 × α2 × α3 × α4 × α5 × α6 × α7 × α8)) (k : α1 → α2 → α3 → α4 → α5 → α6 → α7 → α8 → Option ζ) : Option ζ := match o with
  | none => none
  | some (a1, a2, a3, a4, a5, a6, a7, a8) => k a1 a2 a3 a4 a5 a6 a7 a8
theorem rs_b8s {α1 α2 α3 α4 α5 α6 α7 α8 ζ : Type} {o : Option (α1 × α2 × α3 × α4 × α5 × α6 × α7 × α8)} {k : α1 → α2 → α3 → α4 → α5 → α6 → α7 → α8 → Option ζ} {Z : ζ} (h : rs_b8 o k = some Z) : ∃ X, o = some X ∧ (∀ a1 a2 a3 a4 a5 a6 a7 a8, X = (a1, a2, a3, a4, a5, a6, a7, a8) → k a1 a2 a3 a4 a5 a6 a7 a8 = some Z) := by
  cases o with
  | none => cases h
  | some a => exact ⟨a, rfl, fun a1 a2 a3 a4 a5 a6 a7 a8 e => by subst e; exact h⟩
def rs_m8 {α1 α2 α3 α4 α5 α6 α7 α8 ζ : Type} (o : Option ((α1 × α2 × α3 × α4 × α5 × α6 × α7 × α8) ⊕ ζ)) (k : α1 → α2 → α3 → α4 → α5 → α6 → α7 → α8 → Option ζ) : Option ζ := match o with
  | none => none
  | some (.inl (a1, a2, a3, a4, a5, a6, a7, a8)) => k a1 a2 a3 a4 a5 a6 a7 a8
  | some (.inr z) => some z
theorem rs_m8s {α1 α2 α3 α4 α5 α6 α7 α8 ζ : Type} {o : Option ((α1 × α2 × α3 × α4 × α5 × α6 × α7 × α8) ⊕ ζ)} {k : α1 → α2 → α3 → α4 → α5 → α6 → α7 → α8 → Option ζ} {Z : ζ} (h : rs_m8 o k = some Z) : ∃ X, o = some X ∧ (∀ a1 a2 a3 a4 a5 a6 a7 a8, X = .inl (a1, a2, a3, a4, a5, a6, a7, a8) → k a1 a2 a3 a4 a5 a6 a7 a8 = some Z) ∧ (∀ r, X = .inr r → some r = some Z) := by
  cases o with
  | none => cases h
  | some a =>
    cases a with
    | inl a => exact ⟨_, rfl, fun a1 a2 a3 a4 a5 a6 a7 a8 e => (by cases e; exact h), fun r e => (by cases e)⟩
    | inr r => exact ⟨_, rfl, fun a1 a2 a3 a4 a5 a6 a7 a8 e => (by cases e), fun r2 e => (by cases e; exact h)⟩
def rs_l8 {α1 α2 α3 α4 α5 α6 α7 α8 ρ : Type} (body : α1 → α2 → α3 → α4 → α5 → α6 → α7 → α8 → Option ((α1 × α2 × α3 × α4 × α5 × α6 × α7 × α8) ⊕ ρ)) (N : Nat) (a1 : α1) (a2 : α2) (a3 : α3) (a4 : α4) (a5 : α5) (a6 : α6) (a7 : α7) (a8 : α8) : Option ρ := rs_loop (fun s : (α1 × α2 × α3 × α4 × α5 × α6 × α7 × α8) => body s.1 s.2.1 s.2.2.1 s.2.2.2.1 s.2.2.2.2.1 s.2.2.2.2.2.1 s.2.2.2.2.2.2.1 s.2.2.2.2.2.2.2) N (a1, a2, a3, a4, a5, a6, a7, a8)
theorem rs_l8W {α1 α2 α3 α4 α5 α6 α7 α8 ρ : Type} {body : α1 → α2 → α3 → α4 → α5 → α6 → α7 → α8 → Option ((α1 × α2 × α3 × α4 × α5 × α6 × α7 × α8) ⊕ ρ)} {Wd : α1 → α2 → α3 → α4 → α5 → α6 → α7 → α8 → Prop} {X : ρ} (step : ∀ a1 a2 a3 a4 a5 a6 a7 a8 o, body a1 a2 a3 a4 a5 a6 a7 a8 = some o → (∀ a12 a22 a32 a42 a52 a62 a72 a82, o = .inl (a12, a22, a32, a42, a52, a62, a72, a82) → Wd a12 a22 a32 a42 a52 a62 a72 a82) → (∀ r, o = .inr r → X = r) → Wd a1 a2 a3 a4 a5 a6 a7 a8) (N : Nat) (a1 : α1) (a2 : α2) (a3 : α3) (a4 : α4) (a5 : α5) (a6 : α6) (a7 : α7) (a8 : α8) (h : rs_l8 body N a1 a2 a3 a4 a5 a6 a7 a8 = some X) : Wd a1 a2 a3 a4 a5 a6 a7 a8 :=
  rs_loopW (body := fun s : (α1 × α2 × α3 × α4 × α5 × α6 × α7 × α8) => body s.1 s.2.1 s.2.2.1 s.2.2.2.1 s.2.2.2.2.1 s.2.2.2.2.2.1 s.2.2.2.2.2.2.1 s.2.2.2.2.2.2.2) (Wd := fun s => Wd s.1 s.2.1 s.2.2.1 s.2.2.2.1 s.2.2.2.2.1 s.2.2.2.2.2.1 s.2.2.2.2.2.2.1 s.2.2.2.2.2.2.2) (fun s o hb h1 h2 => step s.1 s.2.1 s.2.2.1 s.2.2.2.1 s.2.2.2.2.1 s.2.2.2.2.2.1 s.2.2.2.2.2.2.1 s.2.2.2.2.2.2.2 o hb (fun a12 a22 a32 a42 a52 a62 a72 a82 e => h1 _ e) h2) N (a1, a2, a3, a4, a5, a6, a7, a8) h
def rs_b9 {α1 α2 α3 α4 α5 α6 α7 α8 α9 ζ : Type} (o : Option (α1 × α2 × α3 × α4 × α5 × α6 × α7 × α8 × α9)) (k : α1 → α2 → α3 → α4 → α5 → α6 → α7 → α8 → α9 → Option ζ) : Option ζ := match o with
  | none => none
  | some (a1, a2, a3, a4, a5, a6, a7, a8, a9) => k a1 a2 a3 a4 a5 a6 a7 a8 a9
theorem rs_b9s {α1 α2 α3 α4 α5 α6 α7 α8 α9 ζ : Type} {o : Option (α1 × α2 × α3 × α4 × α5 × α6 × α7 × α8 × α9)} {k : α1 → α2 → α3 → α4 → α5 → α6 → α7 → α8 → α9 → Option ζ} {Z : ζ} (h : rs_b9 o k = some Z) : ∃ X, o = some X ∧ (∀ a1 a2 a3 a4 a5 a6 a7 a8 a9, X = (a1, a2, a3, a4, a5, a6, a7, a8, a9) → k a1 a2 a3 a4 a5 a6 a7 a8 a9 = some Z) := by
  cases o with
  | none => cases h
  | some a => exact ⟨a, rfl, fun a1 a2 a3 a4 a5 a6 a7 a8 a9 e => by subst e; exact h⟩
def rs_m9 {α1 α2 α3 α4 α5 α6 α7 α8 α9 ζ : Type} (o : Option ((α1 × α2 × α3 × α4 × α5 × α6 × α7 × α8 × α9) ⊕ ζ)) (k : α1 → α2 → α3 → α4 → α5 → α6 → α7 → α8 → α9 → Option ζ) : Option ζ := match o with
  | none => none
  | some (.inl (a1, a2, a3, a4, a5, a6, a7, a8, a9)) => k a1 a2 a3 a4 a5 a6 a7 a8 a9
  | some (.inr z) => some z
theorem rs_m9s {α1 α2 α3 α4 α5 α6 α7 α8 α9 ζ : Type} {o : Option ((α1 × α2 × α3 × α4 × α5 × α6 × α7 × α8 × α9) ⊕ ζ)} {k : α1 → α2 → α3 → α4 → α5 → α6 → α7 → α8 → α9 → Option ζ} {Z : ζ} (h : rs_m9 o k = some Z) : ∃ X, o = some X ∧ (∀ a1 a2 a3 a4 a5 a6 a7 a8 a9, X = .inl (a1, a2, a3, a4, a5, a6, a7, a8, a9) → k a1 a2 a3 a4 a5 a6 a7 a8 a9 = some Z) ∧ (∀ r, X = .inr r → some r = some Z) := by
  cases o with
  | none => cases h
  | some a =>
    cases a with
    | inl a => exact ⟨_, rfl, fun a1 a2 a3 a4 a5 a6 a7 a8 a9 e => (by cases e; exact h), fun r e => (by cases e)⟩
    | inr r => exact ⟨_, rfl, fun a1 a2 a3 a4 a5 a6 a7 a8 a9 e => (by cases e), fun r2 e => (by cases e; exact h)⟩
def rs_l9 {α1 α2 α3 α4 α5 α6 α7 α8 α9 ρ : Type} (body : α1 → α2 → α3 → α4 → α5 → α6 → α7 → α8 → α9 → Option ((α1 × α2 × α3 × α4 × α5 × α6 × α7 × α8 × α9) ⊕ ρ)) (N : Nat) (a1 : α1) (a2 : α2) (a3 : α3) (a4 : α4) (a5 : α5) (a6 : α6) (a7 : α7) (a8 : α8) (a9 : α9) : Option ρ := rs_loop (fun s : (α1 × α2 × α3 × α4 × α5 × α6 × α7 × α8 × α9) => body s.1 s.2.1 s.2.2.1 s.2.2.2.1 s.2.2.2.2.1 s.2.2.2.2.2.1 s.2.2.2.2.2.2.1 s.2.2.2.2.2.2.2.1 s.2.2.2.2.2.2.2.2) N (a1, a2, a3, a4, a5, a6, a7, a8, a9)
theorem rs_l9W {α1 α2 α3 α4 α5 α6 α7 α8 α9 ρ : Type} {body : α1 → α2 → α3 → α4 → α5 → α6 → α7 → α8 → α9 → Option ((α1 × α2 × α3 × α4 × α5 × α6 × α7 × α8 × α9) ⊕ ρ)} {Wd : α1 → α2 → α3 → α4 → α5 → α6 → α7 → α8 → α9 → Prop} {X : ρ} (step : ∀ a1 a2 a3 a4 a5 a6 a7 a8 a9 o, body a1 a2 a3 a4 a5 a6 a7 a8 a9 = some o → (∀ a12 a22 a32 a42 a52 a62 a72 a82 a92, o = .inl (a12, a22, a32, a42, a52, a62, a72, a82, a92) → Wd a12 a22 a32 a42 a52 a62 a72 a82 a92) → (∀ r, o = .inr r → X = r) → Wd a1 a2 a3 a4 a5 a6 a7 a8 a9) (N : Nat) (a1 : α1) (a2 : α2) (a3 : α3) (a4 : α4) (a5 : α5) (a6 : α6) (a7 : α7) (a8 : α8) (a9 : α9) (h : rs_l9 body N a1 a2 a3 a4 a5 a6 a7 a8 a9 = some X) : Wd a1 a2 a3 a4 a5 a6 a7 a8 a9 :=
  rs_loopW (body := fun s : (α1 × α2 × α3 × α4 × α5 × α6 × α7 × α8 × α9) => body s.1 s.2.1 s.2.2.1 s.2.2.2.1 s.2.2.2.2.1 s.2.2.2.2.2.1 s.2.2.2.2.2.2.1 s.2.2.2.2.2.2.2.1 s.2.2.2.2.2.2.2.2) (Wd := fun s => Wd s.1 s.2.1 s.2.2.1 s.2.2.2.1 s.2.2.2.2.1 s.2.2.2.2.2.1 s.2.2.2.2.2.2.1 s.2.2.2.2.2.2.2.1 s.2.2.2.2.2.2.2.2) (fun s o hb h1 h2 => step s.1 s.2.1 s.2.2.1 s.2.2.2.1 s.2.2.2.2.1 s.2.2.2.2.2.1 s.2.2.2.2.2.2.1 s.2.2.2.2.2.2.2.1 s.2.2.2.2.2.2.2.2 o hb (fun a12 a22 a32 a42 a52 a62 a72 a82 a92 e => h1 _ e) h2) N (a1, a2, a3, a4, a5, a6, a7, a8, a9) h
def rs_b10 {α1 α2 α3 α4 α5 α6 α7 α8 α9 α10 ζ : Type} (o : Option (α1 × α2 × α3 × α4 × α5 × α6 × α7 × α8 × α9 × α10)) (k : α1 → α2 → α3 → α4 → α5 → α6 → α7 → α8 → α9 → α10 → Option ζ) : Option ζ := match o with
  | none => none
  | some (a1, a2, a3, a4, a5, a6, a7, a8, a9, a10) => k a1 a2 a3 a4 a5 a6 a7 a8 a9 a10
theorem rs_b10s {α1 α2 α3 α4 α5 α6 α7 α8 α9 α10 ζ : Type} {o : Option (α1 × α2 × α3 × α4 × α5 × α6 × α7 × α8 × α9 × α10)} {k : α1 → α2 → α3 → α4 → α5 → α6 → α7 → α8 → α9 → α10 → Option ζ} {Z : ζ} (h : rs_b10 o k = some Z) : ∃ X, o = some X ∧ (∀ a1 a2 a3 a4 a5 a6 a7 a8 a9 a10, X = (a1, a2, a3, a4, a5, a6, a7, a8, a9, a10) → k a1 a2 a3 a4 a5 a6 a7 a8 a9 a10 = some Z) := by
  cases o with
  | none => cases h
  | some a => exact ⟨a, rfl, fun a1 a2 a3 a4 a5 a6 a7 a8 a9 a10 e => by subst e; exact h⟩
def rs_m10 {α1 α2 α3 α4 α5 α6 α7 α8 α9 α10 ζ : Type} (o : Option ((α1 × α2 × α3 × α4 × α5 × α6 × α7 × α8 × α9 × α10) ⊕ ζ)) (k : α1 → α2 → α3 → α4 → α5 → α6 → α7 → α8 → α9 → α10 → Option ζ) : Option ζ := match o with
  | none => none
  | some (.inl (a1, a2, a3, a4, a5, a6, a7, a8, a9, a10)) => k a1 a2 a3 a4 a5 a6 a7 a8 a9 a10
  | some (.inr z) => some z
theorem rs_m10s {α1 α2 α3 α4 α5 α6 α7 α8 α9 α10 ζ : Type} {o : Option ((α1 × α2 × α3 × α4 × α5 × α6 × α7 × α8 × α9 × α10) ⊕ ζ)} {k : α1 → α2 → α3 → α4 → α5 → α6 → α7 → α8 → α9 → α10 → Option ζ} {Z : ζ} (h : rs_m10 o k = some Z) : ∃ X, o = some X ∧ (∀ a1 a2 a3 a4 a5 a6 a7 a8 a9 a10, X = .inl (a1, a2, a3, a4, a5, a6, a7, a8, a9, a10) → k a1 a2 a3 a4 a5 a6 a7 a8 a9 a10 = some Z) ∧ (∀ r, X = .inr r → some r = some Z) := by
  cases o with
  | none => cases h
  | some a =>
    cases a with
    | inl a => exact ⟨_, rfl, fun a1 a2 a3 a4 a5 a6 a7 a8 a9 a10 e => (by cases e; exact h), fun r e => (by cases e)⟩
    | inr r => exact ⟨_, rfl, fun a1 a2 a3 a4 a5 a6 a7 a8 a9 a10 e => (by cases e), fun r2 e => (by cases e; exact h)⟩
def rs_l10 {α1 α2 α3 α4 α5 α6 α7 α8 α9 α10 ρ : Type} (body : α1 → α2 → α3 → α4 → α5 → α6 → α7 → α8 → α9 → α10 → Option ((α1 × α2 × α3 × α4 × α5 × α6 × α7 × α8 × α9 × α10) ⊕ ρ)) (N : Nat) (a1 : α1) (a2 : α2) (a3 : α3) (a4 : α4) (a5 : α5) (a6 : α6) (a7 : α7) (a8 : α8) (a9 : α9) (a10 : α10) : Option ρ := rs_loop (fun s : (α1 × α2 × α3 × α4 × α5 × α6 × α7 × α8 × α9 × α10) => body s.1 s.2.1 s.2.2.1 s.2.2.2.1 s.2.2.2.2.1 s.2.2.2.2.2.1 s.2.2.2.2.2.2.1 s.2.2.2.2.2.2.2.1 s.2.2.2.2.2.2.2.2.1 s.2.2.2.2.2.2.2.2.2) N (a1, a2, a3, a4, a5, a6, a7, a8, a9, a10)
theorem rs_l10W {α1 α2 α3 α4 α5 α6 α7 α8 α9 α10 ρ : Type} {body : α1 → α2 → α3 → α4 → α5 → α6 → α7 → α8 → α9 → α10 → Option ((α1 × α2 × α3 × α4 × α5 × α6 × α7 × α8 × α9 × α10) ⊕ ρ)} {Wd : α1 → α2 → α3 → α4 → α5 → α6 → α7 → α8 → α9 → α10 → Prop} {X : ρ} (step : ∀ a1 a2 a3 a4 a5 a6 a7 a8 a9 a10 o, body a1 a2 a3 a4 a5 a6 a7 a8 a9 a10 = some o → (∀ a12 a22 a32 a42 a52 a62 a72 a82 a92 a102, o = .inl (a12, a22, a32, a42, a52, a62, a72, a82, a92, a102) → Wd a12 a22 a32 a42 a52 a62 a72 a82 a92 a102) → (∀ r, o = .inr r → X = r) → Wd a1 a2 a3 a4 a5 a6 a7 a8 a9 a10) (N : Nat) (a1 : α1) (a2 : α2) (a3 : α3) (a4 : α4) (a5 : α5) (a6 : α6) (a7 : α7) (a8 : α8) (a9 : α9) (a10 : α10) (h : rs_l10 body N a1 a2 a3 a4 a5 a6 a7 a8 a9 a10 = some X) : Wd a1 a2 a3 a4 a5 a6 a7 a8 a9 a10 :=
  rs_loopW (body := fun s : (α1 × α2 × α3 × α4 × α5 × α6 × α7 × α8 × α9 × α10) => body s.1 s.2.1 s.2.2.1 s.2.2.2.1 s.2.2.2.2.1 s.2.2.2.2.2.1 s.2.2.2.2.2.2.1 s.2.2.2.2.2.2.2.1 s.2.2.2.2.2.2.2.2.1 s.2.2.2.2.2.2.2.2.2) (Wd := fun s => Wd s.1 s.2.1 s.2.2.1 s.2.2.2.1 s.2.2.2.2.1 s.2.2.2.2.2.1 s.2.2.2.2.2.2.1 s.2.2.2.2.2.2.2.1 s.2.2.2.2.2.2.2.2.1 s.2.2.2.2.2.2.2.2.2) (fun s o hb h1 h2 => step s.1 s.2.1 s.2.2.1 s.2.2.2.1 s.2.2.2.2.1 s.2.2.2.2.2.1 s.2.2.2.2.2.2.1 s.2.2.2.2.2.2.2.1 s.2.2.2.2.2.2.2.2.1 s.2.2.2.2.2.2.2.2.2 o hb (fun a12 a22 a32 a42 a52 a62 a72 a82 a92 a102 e => h1 _ e) h2) N (a1, a2, a3, a4, a5, a6, a7, a8, a9, a10) h
def rs_b11 {α1 α2 α3 α4 α5 α6 α7 α8 α9 α10 α11 ζ : Type} (o : Option (α1 × α2 × α3 × α4 × α5 × α6 × α7 × α8 × α9 × α10 × α11)) (k : α1 → α2 → α3 → α4 → α5 → α6 → α7 → α8 → α9 → α10 → α11 → Option ζ) : Option ζ := match o with
  | none => none
  | some (a1, a2, a3, a4, a5, a6, a7, a8, a9, a10, a11) => k a1 a2 a3 a4 a5 a6 a7 a8 a9 a10 a11
theorem rs_b11s {α1 α2 α3 α4 α5 α6 α7 α8 α9 α10 α11 ζ : Type} {o : Option (α1 × α2 × α3 × α4 × α5 × α6 × α7 × α8 × α9 × α10 × α11)} {k : α1 → α2 → α3 → α4 → α5 → α6 → α7 → α8 → α9 → α10 → α11 → Option ζ} {Z : ζ} (h : rs_b11 o k = some Z) : ∃ X, o = some X ∧ (∀ a1 a2 a3 a4 a5 a6 a7 a8 a9 a10 a11, X = (a1, a2, a3, a4, a5, a6, a7, a8, a9, a10, a11) → k a1 a2 a3 a4 a5 a6 a7 a8 a9 a10 a11 = some Z) := by
  cases o with
  | none => cases h
  | some a => exact ⟨a, rfl, fun a1 a2 a3 a4 a5 a6 a7 a8 a9 a10 a11 e => by subst e; exact h⟩
def rs_m11 {α1 α2 α3 α4 α5 α6 α7 α8 α9 α10 α11 ζ : Type} (o : Option ((α1 × α2 × α3 × α4 × α5 × α6 × α7 × α8 × α9 × α10 × α11) ⊕ ζ)) (k : α1 → α2 → α3 → α4 → α5 → α6 → α7 → α8 → α9 → α10 → α11 → Option ζ) : Option ζ := match o with
  | none => none
  | some (.inl (a1, a2, a3, a4, a5, a6, a7, a8, a9, a10, a11)) => k a1 a2 a3 a4 a5 a6 a7 a8 a9 a10 a11
  | some (.inr z) => some z
theorem rs_m11s {α1 α2 α3 α4 α5 α6 α7 α8 α9 α10 α11 ζ : Type} {o : Option ((α1 × α2 × α3 × α4 × α5 × α6 × α7 × α8 × α9 × α10 × α11) ⊕ ζ)} {k : α1 → α2 → α3 → α4 → α5 → α6 → α7 → α8 → α9 → α10 → α11 → Option ζ} {Z : ζ} (h : rs_m11 o k = some Z) : ∃ X, o = some X ∧ (∀ a1 a2 a3 a4 a5 a6 a7 a8 a9 a10 a11, X = .inl (a1, a2, a3, a4, a5, a6, a7, a8, a9, a10, a11) → k a1 a2 a3 a4 a5 a6 a7 a8 a9 a10 a11 = some Z) ∧ (∀ r, X = .inr r → some r = some Z) := by
  cases o with
  | none => cases h
  | some a =>
    cases a with
    | inl a => exact ⟨_, rfl, fun a1 a2 a3 a4 a5 a6 a7 a8 a9 a10 a11 e => (by cases e; exact h), fun r e => (by cases e)⟩
    | inr r => exact ⟨_, rfl, fun a1 a2 a3 a4 a5 a6 a7 a8 a9 a10 a11 e => (by cases e), fun r2 e => (by cases e; exact h)⟩
def rs_l11 {α1 α2 α3 α4 α5 α6 α7 α8 α9 α10 α11 ρ : Type} (body : α1 → α2 → α3 → α4 → α5 → α6 → α7 → α8 → α9 → α10 → α11 → Option ((α1 × α2 × α3 × α4 × α5 × α6 × α7 × α8 × α9 × α10 × α11) ⊕ ρ)) (N : Nat) (a1 : α1) (a2 : α2) (a3 : α3) (a4 : α4) (a5 : α5) (a6 : α6) (a7 : α7) (a8 : α8) (a9 : α9) (a10 : α10) (a11 : α11) : Option ρ := rs_loop (fun s : (α1 × α2 × α3 × α4 × α5 × α6 × α7 × α8 × α9 × α10 × α11) => body s.1 s.2.1 s.2.2.1 s.2.2.2.1 s.2.2.2.2.1 s.2.2.2.2.2.1 s.2.2.2.2.2.2.1 s.2.2.2.2.2.2.2.1 s.2.2.2.2.2.2.2.2.1 s.2.2.2.2.2.2.2.2.2.1 s.2.2.2.2.2.2.2.2.2.2) N (a1, a2, a3, a4, a5, a6, a7, a8, a9, a10, a11)
theorem rs_l11W {α1 α2 α3 α4 α5 α6 α7 α8 α9 α10 α11 ρ : Type} {body : α1 → α2 → α3 → α4 → α5 → α6 → α7 → α8 → α9 → α10 → α11 → Option ((α1 × α2 × α3 × α4 × α5 × α6 × α7 × α8 × α9 × α10 × α11) ⊕ ρ)} {Wd : α1 → α2 → α3 → α4 → α5 → α6 → α7 → α8 → α9 → α10 → α11 → Prop} {X : ρ} (step : ∀ a1 a2 a3 a4 a5 a6 a7 a8 a9 a10 a11 o, body a1 a2 a3 a4 a5 a6 a7 a8 a9 a10 a11 = some o → (∀ a12 a22 a32 a42 a52 a62 a72 a82 a92 a102 a112, o = .inl (a12, a22, a32, a42, a52, a62, a72, a82, a92, a102, a112) → Wd a12 a22 a32 a42 a52 a62 a72 a82 a92 a102 a112) → (∀ r, o = .inr r → X = r) → Wd a1 a2 a3 a4 a5 a6 a7 a8 a9 a10 a11) (N : Nat) (a1 : α1) (a2 : α2) (a3 : α3) (a4 : α4) (a5 : α5) (a6 : α6) (a7 : α7) (a8 : α8) (a9 : α9) (a10 : α10) (a11 : α11) (h : rs_l11 body N a1 a2 a3 a4 a5 a6 a7 a8 a9 a10 a11 = some X) : Wd a1 a2 a3 a4 a5 a6 a7 a8 a9 a10 a11 :=
  rs_loopW (body := fun s : (α1 × α2 × α3 × α4 × α5 × α6 × α7 × α8 × α9 × α10 × α11) => body s.1 s.2.1 s.2.2.1 s.2.2.2.1 s.2.2.2.2.1 s.2.2.2.2.2.1 s.2.2.2.2.2.2.1 s.2.2.2.2.2.2.2.1 s.2.2.2.2.2.2.2.2.1 s.2.2.2.2.2.2.2.2.2.1 s.2.2.2.2.2.2.2.2.2.2) (Wd := fun s => Wd s.1 s.2.1 s.2.2.1 s.2.2.2.1 s.2.2.2.2.1 s.2.2.2.2.2.1 s.2.2.2.2.2.2.1 s.2.2.2.2.2.2.2.1 s.2.2.2.2.2.2.2.2.1 s.2.2.2.2.2.2.2.2.2.1 s.2.2.2.2.2.2.2.2.2.2) (fun s o hb h1 h2 => step s.1 s.2.1 s.2.2.1 s.2.2.2.1 s.2.2.2.2.1 s.2.2.2.2.2.1 s.2.2.2.2.2.2.1 s.2.2.2.2.2.2.2.1 s.2.2.2.2.2.2.2.2.1 s.2.2.2.2.2.2.2.2.2.1 s.2.2.2.2.2.2.2.2.2.2 o hb (fun a12 a22 a32 a42 a52 a62 a72 a82 a92 a102 a112 e => h1 _ e) h2) N (a1, a2, a3, a4, a5, a6, a7, a8, a9, a10, a11) h
def rs_b12 {α1 α2 α3 α4 α5 α6 α7 α8 α9 α10 α11 α12 ζ : Type} (o : Option (α1 × α2 × α3 × α4 × α5 × α6 × α7 × α8 × α9 × α10 × α11 × α12)) (k : α1 → α2 → α3 → α4 → α5 → α6 → α7 → α8 → α9 → α10 → α11 → α12 → Option ζ) : Option ζ := match o with
  | none => none
  | some (a1, a2, a3, a4, a5, a6, a7, a8, a9, a10, a11, a12) => k a1 a2 a3 a4 a5 a6 a7 a8 a9 a10 a11 a12
theorem rs_b12s {α1 α2 α3 α4 α5 α6 α7 α8 α9 α10 α11 α12 ζ : Type} {o : Option (α1 × α2 × α3 × α4 × α5 × α6 × α7 × α8 × α9 × α10 × α11 × α12)} {k : α1 → α2 → α3 → α4 → α5 → α6 → α7 → α8 → α9 → α10 → α11 → α12 → Option ζ} {Z : ζ} (h : rs_b12 o k = some Z) : ∃ X, o = some X ∧ (∀ a1 a2 a3 a4 a5 a6 a7 a8 a9 a10 a11 a12, X = (a1, a2, a3, a4, a5, a6, a7, a8, a9, a10, a11, a12) → k a1 a2 a3 a4 a5 a6 a7 a8 a9 a10 a11 a12 = some Z) := by
  cases o with
  | none => cases h
  | some a => exact ⟨a, rfl, fun a1 a2 a3 a4 a5 a6 a7 a8 a9 a10 a11 a12 e => by subst e; exact h⟩
def rs_m12 {α1 α2 α3 α4 α5 α6 α7 α8 α9 α10 α11 α12 ζ : Type} (o : Option ((α1 × α2 × α3 × α4 × α5 × α6 × α7 × α8 × α9 × α10 × α11 × α12) ⊕ ζ)) (k : α1 → α2 → α3 → α4 → α5 → α6 → α7 → α8 → α9 → α10 → α11 → α12 → Option ζ) : Option ζ := match o with
  | none => none
  | some (.inl (a1, a2, a3, a4, a5, a6, a7, a8, a9, a10, a11, a12)) => k a1 a2 a3 a4 a5 a6 a7 a8 a9 a10 a11 a12
  | some (.inr z) => some z
theorem rs_m12s {α1 α2 α3 α4 α5 α6 α7 α8 α9 α10 α11 α12 ζ : Type} {o : Option ((α1 × α2 × α3 × α4 × α5 × α6 × α7 × α8 × α9 × α10 × α11 × α12) ⊕ ζ)} {k : α1 → α2 → α3 → α4 → α5 → α6 → α7 → α8 → α9 → α10 → α11 → α12 → Option ζ} {Z : ζ} (h : rs_m12 o k = some Z) : ∃ X, o = some X ∧ (∀ a1 a2 a3 a4 a5 a6 a7 a8 a9 a10 a11 a12, X = .inl (a1, a2, a3, a4, a5, a6, a7, a8, a9, a10, a11, a12) → k a1 a2 a3 a4 a5 a6 a7 a8 a9 a10 a11 a12 = some Z) ∧ (∀ r, X = .inr r → some r = some Z) := by
  cases o with
  | none => cases h
  | some a =>
    cases a with
    | inl a => exact ⟨_, rfl, fun a1 a2 a3 a4 a5 a6 a7 a8 a9 a10 a11 a12 e => (by cases e; exact h), fun r e => (by cases e)⟩
    | inr r => exact ⟨_, rfl, fun a1 a2 a3 a4 a5 a6 a7 a8 a9 a10 a11 a12 e => (by cases e), fun r2 e => (by cases e; exact h)⟩
def rs_l12 {α1 α2 α3 α4 α5 α6 α7 α8 α9 α10 α11 α12 ρ : Type} (body : α1 → α2 → α3 → α4 → α5 → α6 → α7 → α8 → α9 → α10 → α11 → α12 → Option ((α1 × α2 × α3 × α4 × α5 × α6 × α7 × α8 × α9 × α10 × α11 × α12) ⊕ ρ)) (N : Nat) (a1 : α1) (a2 : α2) (a3 : α3) (a4 : α4) (a5 : α5) (a6 : α6) (a7 : α7) (a8 : α8) (a9 : α9) (a10 : α10) (a11 : α11) (a12 : α12) : Option ρ := rs_loop (fun s : (α1 × α2 × α3 × α4 × α5 × α6 × α7 × α8 × α9 × α10 × α11 × α12) => body s.1 s.2.1 s.2.2.1 s.2.2.2.1 s.2.2.2.2.1 s.2.2.2.2.2.1 s.2.2.2.2.2.2.1 s.2.2.2.2.2.2.2.1 s.2.2.2.2.2.2.2.2.1 s.2.2.2.2.2.2.2.2.2.1 s.2.2.2.2.2.2.2.2.2.2.1 s.2.2.2.2.2.2.2.2.2.2.2) N (a1, a2, a3, a4, a5, a6, a7, a8, a9, a10, a11, a12)
theorem rs_l12W {α1 α2 α3 α4 α5 α6 α7 α8 α9 α10 α11 α12 ρ : Type} {body : α1 → α2 → α3 → α4 → α5 → α6 → α7 → α8 → α9 → α10 → α11 → α12 → Option ((α1 × α2 × α3 × α4 × α5 × α6 × α7 × α8 × α9 × α10 × α11 × α12) ⊕ ρ)} {Wd : α1 → α2 → α3 → α4 → α5 → α6 → α7 → α8 → α9 → α10 → α11 → α12 → Prop} {X : ρ} (step : ∀ a1 a2 a3 a4 a5 a6 a7 a8 a9 a10 a11 a12 o, body a1 a2 a3 a4 a5 a6 a7 a8 a9 a10 a11 a12 = some o → (∀ a12 a22 a32 a42 a52 a62 a72 a82 a92 a102 a112 a122, o = .inl (a12, a22, a32, a42, a52, a62, a72, a82, a92, a102, a112, a122) → Wd a12 a22 a32 a42 a52 a62 a72 a82 a92 a102 a112 a122) → (∀ r, o = .inr r → X = r) → Wd a1 a2 a3 a4 a5 a6 a7 a8 a9 a10 a11 a12) (N : Nat) (a1 : α1) (a2 : α2) (a3 : α3) (a4 : α4) (a5 : α5) (a6 : α6) (a7 : α7) (a8 : α8) (a9 : α9) (a10 : α10) (a11 : α11) (a12 : α12) (h : rs_l12 body N a1 a2 a3 a4 a5 a6 a7 a8 a9 a10 a11 a12 = some X) : Wd a1 a2 a3 a4 a5 a6 a7 a8 a9 a10 a11 a12 :=
  rs_loopW (body := fun s : (α1 × α2 × α3 × α4 × α5 × α6 × α7 × α8 × α9 × α10 × α11 × α12) => body s.1 s.2.1 s.2.2.1 s.2.2.2.1 s.2.2.2.2.1 s.2.2.2.2.2.1 s.2.2.2.2.2.2.1 s.2.2.2.2.2.2.2.1 s.2.2.2.2.2.2.2.2.1 s.2.2.2.2.2.2.2.2.2.1 s.2.2.2.2.2.2.2.2.2.2.1 s.2.2.2.2.2.2.2.2.2.2.2) (Wd := fun s => Wd s.1 s.2.1 s.2.2.1 s.2.2.2.1 s.2.2.2.2.1 s.2.2.2.2.2.1 s.2.2.2.2.2.2.1 s.2.2.2.2.2.2.2.1 s.2.2.2.2.2.2.2.2.1 s.2.2.2.2.2.2.2.2.2.1 s.2.2.2.2.2.2.2.2.2.2.1 s.2.2.2.2.2.2.2.2.2.2.2) (fun s o hb h1 h2 => step s.1 s.2.1 s.2.2.1 s.2.2.2.1 s.2.2.2.2.1 s.2.2.2.2.2.1 s.2.2.2.2.2.2.1 s.2.2.2.2.2.2.2.1 s.2.2.2.2.2.2.2.2.1 s.2.2.2.2.2.2.2.2.2.1 s.2.2.2.2.2.2.2.2.2.2.1 s.2.2.2.2.2.2.2.2.2.2.2 o hb (fun a12 a22 a32 a42 a52 a62 a72 a82 a92 a102 a112 a122 e => h1 _ e) h2) N (a1, a2, a3, a4, a5, a6, a7, a8, a9, a10, a11, a12) h
def rs_b13 {α1 α2 α3 α4 α5 α6 α7 α8 α9 α10 α11 α12 α13 ζ : Type} (o : Option (α1 × α2 × α3 × α4 × α5 × α6 × α7 × α8 × α9 × α10 × α11 × α12 × α13)) (k : α1 → α2 → α3 → α4 → α5 → α6 → α7 → α8 → α9 → α10 → α11 → α12 → α13 → Option ζ) : Option ζ := match o with
  | none => none
  | some (a1, a2, a3, a4, a5, a6, a7, a8, a9, a10, a11, a12, a13) => k a1 a2 a3 a4 a5 a6 a7 a8 a9 a10 a11 a12 a13
theorem rs_b13s {α1 α2 α3 α4 α5 α6 α7 α8 α9 α10 α11 α12 α13 ζ : Type} {o : Option (α1 × α2 × α3 × α4 × α5 × α6 × α7 × α8 × α9 × α10 × α11 × α12 × α13)} {k : α1 → α2 → α3 → α4 → α5 → α6 → α7 → α8 → α9 → α10 → α11 → α12 → α13 → Option ζ} {Z : ζ} (h : rs_b13 o k = some Z) : ∃ X, o = some X ∧ (∀ a1 a2 a3 a4 a5 a6 a7 a8 a9 a10 a11 a12 a13, X = (a1, a2, a3, a4, a5, a6, a7, a8, a9, a10, a11, a12, a13) → k a1 a2 a3 a4 a5 a6 a7 a8 a9 a10 a11 a12 a13 = some Z) := by
  cases o with
  | none => cases h
  | some a => exact ⟨a, rfl, fun a1 a2 a3 a4 a5 a6 a7 a8 a9 a10 a11 a12 a13 e => by subst e; exact h⟩
def rs_m13 {α1 α2 α3 α4 α5 α6 α7 α8 α9 α10 α11 α12 α13 ζ : Type} (o : Option ((α1 × α2 × α3 × α4 × α5 × α6 × α7 × α8 × α9 × α10 × α11 × α12 × α13) ⊕ ζ)) (k : α1 → α2 → α3 → α4 → α5 → α6 → α7 → α8 → α9 → α10 → α11 → α12 → α13 → Option ζ) : Option ζ := match o with
  | none => none
  | some (.inl (a1, a2, a3, a4, a5, a6, a7, a8, a9, a10, a11, a12, a13)) => k a1 a2 a3 a4 a5 a6 a7 a8 a9 a10 a11 a12 a13
  | some (.inr z) => some z
theorem rs_m13s {α1 α2 α3 α4 α5 α6 α7 α8 α9 α10 α11 α12 α13 ζ : Type} {o : Option ((α1 × α2 × α3 × α4 × α5 × α6 × α7 × α8 × α9 × α10 × α11 × α12 × α13) ⊕ ζ)} {k : α1 → α2 → α3 → α4 → α5 → α6 → α7 → α8 → α9 → α10 → α11 → α12 → α13 → Option ζ} {Z : ζ} (h : rs_m13 o k = some Z) : ∃ X, o = some X ∧ (∀ a1 a2 a3 a4 a5 a6 a7 a8 a9 a10 a11 a12 a13, X = .inl (a1, a2, a3, a4, a5, a6, a7, a8, a9, a10, a11, a12, a13) → k a1 a2 a3 a4 a5 a6 a7 a8 a9 a10 a11 a12 a13 = some Z) ∧ (∀ r, X = .inr r → some r = some Z) := by
  cases o with
  | none => cases h
  | some a =>
    cases a with
    | inl a => exact ⟨_, rfl, fun a1 a2 a3 a4 a5 a6 a7 a8 a9 a10 a11 a12 a13 e => (by cases e; exact h), fun r e => (by cases e)⟩
    | inr r => exact ⟨_, rfl, fun a1 a2 a3 a4 a5 a6 a7 a8 a9 a10 a11 a12 a13 e => (by cases e), fun r2 e => (by cases e; exact h)⟩
def rs_l13 {α1 α2 α3 α4 α5 α6 α7 α8 α9 α10 α11 α12 α13 ρ : Type} (body : α1 → α2 → α3 → α4 → α5 → α6 → α7 → α8 → α9 → α10 → α11 → α12 → α13 → Option ((α1 × α2 × α3 × α4 × α5 × α6 × α7 × α8 × α9 × α10 × α11 × α12 × α13) ⊕ ρ)) (N : Nat) (a1 : α1) (a2 : α2) (a3 : α3) (a4 : α4) (a5 : α5) (a6 : α6) (a7 : α7) (a8 : α8) (a9 : α9) (a10 : α10) (a11 : α11) (a12 : α12) (a13 : α13) : Option ρ := rs_loop (fun s : (α1 × α2 × α3 × α4 × α5 × α6 × α7 × α8 × α9 × α10 × α11 × α12 × α13) => body s.1 s.2.1 s.2.2.1 s.2.2.2.1 s.2.2.2.2.1 s.2.2.2.2.2.1 s.2.2.2.2.2.2.1 s.2.2.2.2.2.2.2.1 s.2.2.2.2.2.2.2.2.1 s.2.2.2.2.2.2.2.2.2.1 s.2.2.2.2.2.2.2.2.2.2.1 s.2.2.2.2.2.2.2.2.2.2.2.1 s.2.2.2.2.2.2.2.2.2.2.2.2) N (a1, a2, a3, a4, a5, a6, a7, a8, a9, a10, a11, a12, a13)
theorem rs_l13W {α1 α2 α3 α4 α5 α6 α7 α8 α9 α10 α11 α12 α13 ρ : Type} {body : α1 → α2 → α3 → α4 → α5 → α6 → α7 → α8 → α9 → α10 → α11 → α12 → α13 → Option ((α1 × α2 × α3 × α4 × α5 × α6 × α7 × α8 × α9 × α10 × α11 × α12 × α13) ⊕ ρ)} {Wd : α1 → α2 → α3 → α4 → α5 → α6 → α7 → α8 → α9 → α10 → α11 → α12 → α13 → Prop} {X : ρ} (step : ∀ a1 a2 a3 a4 a5 a6 a7 a8 a9 a10 a11 a12 a13 o, body a1 a2 a3 a4 a5 a6 a7 a8 a9 a10 a11 a12 a13 = some o → (∀ a12 a22 a32 a42 a52 a62 a72 a82 a92 a102 a112 a122 a132, o = .inl (a12, a22, a32, a42, a52, a62, a72, a82, a92, a102, a112, a122, a132) → Wd a12 a22 a32 a42 a52 a62 a72 a82 a92 a102 a112 a122 a132) → (∀ r, o = .inr r → X = r) → Wd a1 a2 a3 a4 a5 a6 a7 a8 a9 a10 a11 a12 a13) (N : Nat) (a1 : α1) (a2 : α2) (a3 : α3) (a4 : α4) (a5 : α5) (a6 : α6) (a7 : α7) (a8 : α8) (a9 : α9) (a10 : α10) (a11 : α11) (a12 : α12) (a13 : α13) (h : rs_l13 body N a1 a2 a3 a4 a5 a6 a7 a8 a9 a10 a11 a12 a13 = some X) : Wd a1 a2 a3 a4 a5 a6 a7 a8 a9 a10 a11 a12 a13 :=
  rs_loopW (body := fun s : (α1 × α2 × α3 × α4 × α5 × α6 × α7 × α8 × α9 × α10 × α11 × α12 × α13) => body s.1 s.2.1 s.2.2.1 s.2.2.2.1 s.2.2.2.2.1 s.2.2.2.2.2.1 s.2.2.2.2.2.2.1 s.2.2.2.2.2.2.2.1 s.2.2.2.2.2.2.2.2.1 s.2.2.2.2.2.2.2.2.2.1 s.2.2.2.2.2.2.2.2.2.2.1 s.2.2.2.2.2.2.2.2.2.2.2.1 s.2.2.2.2.2.2.2.2.2.2.2.2) (Wd := fun s => Wd s.1 s.2.1 s.2.2.1 s.2.2.2.1 s.2.2.2.2.1 s.2.2.2.2.2.1 s.2.2.2.2.2.2.1 s.2.2.2.2.2.2.2.1 s.2.2.2.2.2.2.2.2.1 s.2.2.2.2.2.2.2.2.2.1 s.2.2.2.2.2.2.2.2.2.2.1 s.2.2.2.2.2.2.2.2.2.2.2.1 s.2.2.2.2.2.2.2.2.2.2.2.2) (fun s o hb h1 h2 => step s.1 s.2.1 s.2.2.1 s.2.2.2.1 s.2.2.2.2.1 s.2.2.2.2.2.1 s.2.2.2.2.2.2.1 s.2.2.2.2.2.2.2.1 s.2.2.2.2.2.2.2.2.1 s.2.2.2.2.2.2.2.2.2.1 s.2.2.2.2.2.2.2.2.2.2.1 s.2.2.2.2.2.2.2.2.2.2.2.1 s.2.2.2.2.2.2.2.2.2.2.2.2 o hb (fun a12 a22 a32 a42 a52 a62 a72 a82 a92 a102 a112 a122 a132 e => h1 _ e) h2) N (a1, a2, a3, a4, a5, a6, a7, a8, a9, a10, a11, a12, a13) h
def rs_b14 {α1 α2 α3 α4 α5 α6 α7 α8 α9 α10 α11 α12 α13 α14 ζ : Type} (o : Option (α1 × α2 × α3 × α4 × α5 × α6 × α7 × α8 × α9 × α10 × α11 × α12 × α13 × α14)) (k : α1 → α2 → α3 → α4 → α5 → α6 → α7 → α8 → α9 → α10 → α11 → α12 → α13 → α14 → Option ζ) : Option ζ := match o with
  | none => none
  | some (a1, a2, a3, a4, a5, a6, a7, a8, a9, a10, a11, a12, a13, a14) => k a1 a2 a3 a4 a5 a6 a7 a8 a9 a10 a11 a12 a13 a14
theorem rs_b14s {α1 α2 α3 α4 α5 α6 α7 α8 α9 α10 α11 α12 α13 α14 ζ : Type} {o : Option (α1 × α2 × α3 × α4 × α5 × α6 × α7 × α8 × α9 × α10 × α11 × α12 × α13 × α14)} {k : α1 → α2 → α3 → α4 → α5 → α6 → α7 → α8 → α9 → α10 → α11 → α12 → α13 → α14 → Option ζ} {Z : ζ} (h : rs_b14 o k = some Z) : ∃ X, o = some X ∧ (∀ a1 a2 a3 a4 a5 a6 a7 a8 a9 a10 a11 a12 a13 a14, X = (a1, a2, a3, a4, a5, a6, a7, a8, a9, a10, a11, a12, a13, a14) → k a1 a2 a3 a4 a5 a6 a7 a8 a9 a10 a11 a12 a13 a14 = some Z) := by
  cases o with
  | none => cases h
  | some a => exact ⟨a, rfl, fun a1 a2 a3 a4 a5 a6 a7 a8 a9 a10 a11 a12 a13 a14 e => by subst e; exact h⟩
def rs_m14 {α1 α2 α3 α4 α5 α6 α7 α8 α9 α10 α11 α12 α13 α14 ζ : Type} (o : Option ((α1 × α2 × α3 × α4 × α5 × α6 × α7 × α8 × α9 × α10 × α11 × α12 × α13 × α14) ⊕ ζ)) (k : α1 → α2 → α3 → α4 → α5 → α6 → α7 → α8 → α9 → α10 → α11 → α12 → α13 → α14 → Option ζ) : Option ζ := match o with
  | none => none
  | some (.inl (a1, a2, a3, a4, a5, a6, a7, a8, a9, a10, a11, a12, a13, a14)) => k a1 a2 a3 a4 a5 a6 a7 a8 a9 a10 a11 a12 a13 a14
  | some (.inr z) => some z
theorem rs_m14s {α1 α2 α3 α4 α5 α6 α7 α8 α9 α10 α11 α12 α13 α14 ζ : Type} {o : Option ((α1 × α2 × α3 × α4 × α5 × α6 × α7 × α8 × α9 × α10 × α11 × α12 × α13 × α14) ⊕ ζ)} {k : α1 → α2 → α3 → α4 → α5 → α6 → α7 → α8 → α9 → α10 → α11 → α12 → α13 → α14 → Option ζ} {Z : ζ} (h : rs_m14 o k = some Z) : ∃ X, o = some X ∧ (∀ a1 a2 a3 a4 a5 a6 a7 a8 a9 a10 a11 a12 a13 a14, X = .inl (a1, a2, a3, a4, a5, a6, a7, a8, a9, a10, a11, a12, a13, a14) → k a1 a2 a3 a4 a5 a6 a7 a8 a9 a10 a11 a12 a13 a14 = some Z) ∧ (∀ r, X = .inr r → some r = some Z) := by
  cases o with
  | none => cases h
  | some a =>
    cases a with
    | inl a => exact ⟨_, rfl, fun a1 a2 a3 a4 a5 a6 a7 a8 a9 a10 a11 a12 a13 a14 e => (by cases e; exact h), fun r e => (by cases e)⟩
    | inr r => exact ⟨_, rfl, fun a1 a2 a3 a4 a5 a6 a7 a8 a9 a10 a11 a12 a13 a14 e => (by cases e), fun r2 e => (by cases e; exact h)⟩
def rs_l14 {α1 α2 α3 α4 α5 α6 α7 α8 α9 α10 α11 α12 α13 α14 ρ : Type} (body : α1 → α2 → α3 → α4 → α5 → α6 → α7 → α8 → α9 → α10 → α11 → α12 → α13 → α14 → Option ((α1 × α2 × α3 × α4 × α5 × α6 × α7 × α8 × α9 × α10 × α11 × α12 × α13 × α14) ⊕ ρ)) (N : Nat) (a1 : α1) (a2 : α2) (a3 : α3) (a4 : α4) (a5 : α5) (a6 : α6) (a7 : α7) (a8 : α8) (a9 : α9) (a10 : α10) (a11 : α11) (a12 : α12) (a13 : α13) (a14 : α14) : Option ρ := rs_loop (fun s : (α1 × α2 × α3 × α4 × α5 × α6 × α7 × α8 × α9 × α10 × α11 × α12 × α13 × α14) => body s.1 s.2.1 s.2.2.1 s.2.2.2.1 s.2.2.2.2.1 s.2.2.2.2.2.1 s.2.2.2.2.2.2.1 s.2.2.2.2.2.2.2.1 s.2.2.2.2.2.2.2.2.1 s.2.2.2.2.2.2.2.2.2.1 s.2.2.2.2.2.2.2.2.2.2.1 s.2.2.2.2.2.2.2.2.2.2.2.1 s.2.2.2.2.2.2.2.2.2.2.2.2.1 s.2.2.2.2.2.2.2.2.2.2.2.2.2) N (a1, a2, a3, a4, a5, a6, a7, a8, a9, a10, a11, a12, a13, a14)
theorem rs_l14W {α1 α2 α3 α4 α5 α6 α7 α8 α9 α10 α11 α12 α13 α14 ρ : Type} {body : α1 → α2 → α3 → α4 → α5 → α6 → α7 → α8 → α9 → α10 → α11 → α12 → α13 → α14 → Option ((α1 × α2 × α3 × α4 × α5 × α6 × α7 × α8 × α9 × α10 × α11 × α12 × α13 × α14) ⊕ ρ)} {Wd : α1 → α2 → α3 → α4 → α5 → α6 → α7 → α8 → α9 → α10 → α11 → α12 → α13 → α14 → Prop} {X : ρ} (step : ∀ a1 a2 a3 a4 a5 a6 a7 a8 a9 a10 a11 a12 a13 a14 o, body a1 a2 a3 a4 a5 a6 a7 a8 a9 a10 a11 a12 a13 a14 = some o → (∀ a12 a22 a32 a42 a52 a62 a72 a82 a92 a102 a112 a122 a132 a142, o = .inl (a12, a22, a32, a42, a52, a62, a72, a82, a92, a102, a112, a122, a132, a142) → Wd a12 a22 a32 a42 a52 a62 a72 a82 a92 a102 a112 a122 a132 a142) → (∀ r, o = .inr r → X = r) → Wd a1 a2 a3 a4 a5 a6 a7 a8 a9 a10 a11 a12 a13 a14) (N : Nat) (a1 : α1) (a2 : α2) (a3 : α3) (a4 : α4) (a5 : α5) (a6 : α6) (a7 : α7) (a8 : α8) (a9 : α9) (a10 : α10) (a11 : α11) (a12 : α12) (a13 : α13) (a14 : α14) (h : rs_l14 body N a1 a2 a3 a4 a5 a6 a7 a8 a9 a10 a11 a12 a13 a14 = some X) : Wd a1 a2 a3 a4 a5 a6 a7 a8 a9 a10 a11 a12 a13 a14 :=
  rs_loopW (body := fun s : (α1 × α2 × α3 × α4 × α5 × α6 × α7 × α8 × α9 × α10 × α11 × α12 × α13 × α14) => body s.1 s.2.1 s.2.2.1 s.2.2.2.1 s.2.2.2.2.1 s.2.2.2.2.2.1 s.2.2.2.2.2.2.1 s.2.2.2.2.2.2.2.1 s.2.2.2.2.2.2.2.2.1 s.2.2.2.2.2.2.2.2.2.1 s.2.2.2.2.2.2.2.2.2.2.1 s.2.2.2.2.2.2.2.2.2.2.2.1 s.2.2.2.2.2.2.2.2.2.2.2.2.1 s.2.2.2.2.2.2.2.2.2.2.2.2.2) (Wd := fun s => Wd s.1 s.2.1 s.2.2.1 s.2.2.2.1 s.2.2.2.2.1 s.2.2.2.2.2.1 s.2.2.2.2.2.2.1 s.2.2.2.2.2.2.2.1 s.2.2.2.2.2.2.2.2.1 s.2.2.2.2.2.2.2.2.2.1 s.2.2.2.2.2.2.2.2.2.2.1 s.2.2.2.2.2.2.2.2.2.2.2.1 s.2.2.2.2.2.2.2.2.2.2.2.2.1 s.2.2.2.2.2.2.2.2.2.2.2.2.2) (fun s o hb h1 h2 => step s.1 s.2.1 s.2.2.1 s.2.2.2.1 s.2.2.2.2.1 s.2.2.2.2.2.1 s.2.2.2.2.2.2.1 s.2.2.2.2.2.2.2.1 s.2.2.2.2.2.2.2.2.1 s.2.2.2.2.2.2.2.2.2.1 s.2.2.2.2.2.2.2.2.2.2.1 s.2.2.2.2.2.2.2.2.2.2.2.1 s.2.2.2.2.2.2.2.2.2.2.2.2.1 s.2.2.2.2.2.2.2.2.2.2.2.2.2 o hb (fun a12 a22 a32 a42 a52 a62 a72 a82 a92 a102 a112 a122 a132 a142 e => h1 _ e) h2) N (a1, a2, a3, a4, a5, a6, a7, a8, a9, a10, a11, a12, a13, a14) h
def rs_b15 {α1 α2 α3 α4 α5 α6 α7 α8 α9 α10 α11 α12 α13 α14 α15 ζ : Type} (o : Option (α1 × α2 × α3 × α4 × α5 × α6 × α7 × α8 × α9 × α10 × α11 × α12 × α13 × α14 × α15)) (k : α1 → α2 → α3 → α4 → α5 → α6 → α7 → α8 → α9 → α10 → α11 → α12 → α13 → α14 → α15 → Option ζ) : Option ζ := match o with
  | none => none
  | some (a1, a2, a3, a4, a5, a6, a7, a8, a9, a10, a11, a12, a13, a14, a15) => k a1 a2 a3 a4 a5 a6 a7 a8 a9 a10 a11 a12 a13 a14 a15
theorem rs_b15s {α1 α2 α3 α4 α5 α6 α7 α8 α9 α10 α11 α12 α13 α14 α15 ζ : Type} {o : Option (α1 × α2 × α3 × α4 × α5 × α6 × α7 × α8 × α9 × α10 × α11 × α12 × α13 × α14 × α15)} {k : α1 → α2 → α3 → α4 → α5 → α6 → α7 → α8 → α9 → α10 → α11 → α12 → α13 → α14 → α15 → Option ζ} {Z : ζ} (h : rs_b15 o k = some Z) : ∃ X, o = some X ∧ (∀ a1 a2 a3 a4 a5 a6 a7 a8 a9 a10 a11 a12 a13 a14 a15, X = (a1, a2, a3, a4, a5, a6, a7, a8, a9, a10, a11, a12, a13, a14, a15) → k a1 a2 a3 a4 a5 a6 a7 a8 a9 a10 a11 a12 a13 a14 a15 = some Z) := by
  cases o with
  | none => cases h
  | some a => exact ⟨a, rfl, fun a1 a2 a3 a4 a5 a6 a7 a8 a9 a10 a11 a12 a13 a14 a15 e => by subst e; exact h⟩
def rs_m15 {α1 α2 α3 α4 α5 α6 α7 α8 α9 α10 α11 α12 α13 α14 α15 ζ : Type} (o : Option ((α1 × α2 × α3 × α4 × α5 × α6 × α7 × α8 × α9 × α10 × α11 × α12 × α13 × α14 × α15) ⊕ ζ)) (k : α1 → α2 → α3 → α4 → α5 → α6 → α7 → α8 → α9 → α10 → α11 → α12 → α13 → α14 → α15 → Option ζ) : Option ζ := match o with
  | none => none
  | some (.inl (a1, a2, a3, a4, a5, a6, a7, a8, a9, a10, a11, a12, a13, a14, a15)) => k a1 a2 a3 a4 a5 a6 a7 a8 a9 a10 a11 a12 a13 a14 a15
  | some (.inr z) => some z
theorem rs_m15s {α1 α2 α3 α4 α5 α6 α7 α8 α9 α10 α11 α12 α13 α14 α15 ζ : Type} {o : Option ((α1 × α2 × α3 × α4 × α5 × α6 × α7 × α8 × α9 × α10 × α11 × α12 × α13 × α14 × α15) ⊕ ζ)} {k : α1 → α2 → α3 → α4 → α5 → α6 → α7 → α8 → α9 → α10 → α11 → α12 → α13 → α14 → α15 → Option ζ} {Z : ζ} (h : rs_m15 o k = some Z) : ∃ X, o = some X ∧ (∀ a1 a2 a3 a4 a5 a6 a7 a8 a9 a10 a11 a12 a13 a14 a15, X = .inl (a1, a2, a3, a4, a5, a6, a7, a8, a9, a10, a11, a12, a13, a14, a15) → k a1 a2 a3 a4 a5 a6 a7 a8 a9 a10 a11 a12 a13 a14 a15 = some Z) ∧ (∀ r, X = .inr r → some r = some Z) := by
  cases o with
  | none => cases h
  | some a =>
    cases a with
    | inl a => exact ⟨_, rfl, fun a1 a2 a3 a4 a5 a6 a7 a8 a9 a10 a11 a12 a13 a14 a15 e => (by cases e; exact h), fun r e => (by cases e)⟩
    | inr r => exact ⟨_, rfl, fun a1 a2 a3 a4 a5 a6 a7 a8 a9 a10 a11 a12 a13 a14 a15 e => (by cases e), fun r2 e => (by cases e; exact h)⟩
def rs_l15 {α1 α2 α3 α4 α5 α6 α7 α8 α9 α10 α11 α12 α13 α14 α15 ρ : Type} (body : α1 → α2 → α3 → α4 → α5 → α6 → α7 → α8 → α9 → α10 → α11 → α12 → α13 → α14 → α15 → Option ((α1 × α2 × α3 × α4 × α5 × α6 × α7 × α8 × α9 × α10 × α11 × α12 × α13 × α14 × α15) ⊕ ρ)) (N : Nat) (a1 : α1) (a2 : α2) (a3 : α3) (a4 : α4) (a5 : α5) (a6 : α6) (a7 : α7) (a8 : α8) (a9 : α9) (a10 : α10) (a11 : α11) (a12 : α12) (a13 : α13) (a14 : α14) (a15 : α15) : Option ρ := rs_loop (fun s : (α1 × α2 × α3 × α4 × α5 × α6 × α7 × α8 × α9 × α10 × α11 × α12 × α13 × α14 × α15) => body s.1 s.2.1 s.2.2.1 s.2.2.2.1 s.2.2.2.2.1 s.2.2.2.2.2.1 s.2.2.2.2.2.2.1 s.2.2.2.2.2.2.2.1 s.2.2.2.2.2.2.2.2.1 s.2.2.2.2.2.2.2.2.2.1 s.2.2.2.2.2.2.2.2.2.2.1 s.2.2.2.2.2.2.2.2.2.2.2.1 s.2.2.2.2.2.2.2.2.2.2.2.2.1 s.2.2.2.2.2.2.2.2.2.2.2.2.2.1 s.2.2.2.2.2.2.2.2.2.2.2.2.2.2) N (a1, a2, a3, a4, a5, a6, a7, a8, a9, a10, a11, a12, a13, a14, a15)
theorem rs_l15W {α1 α2 α3 α4 α5 α6 α7 α8 α9 α10 α11 α12 α13 α14 α15 ρ : Type} {body : α1 → α2 → α3 → α4 → α5 → α6 → α7 → α8 → α9 → α10 → α11 → α12 → α13 → α14 → α15 → Option ((α1 × α2 × α3 × α4 × α5 × α6 × α7 × α8 × α9 × α10 × α11 × α12 × α13 × α14 × α15) ⊕ ρ)} {Wd : α1 → α2 → α3 → α4 → α5 → α6 → α7 → α8 → α9 → α10 → α11 → α12 → α13 → α14 → α15 → Prop} {X : ρ} (step : ∀ a1 a2 a3 a4 a5 a6 a7 a8 a9 a10 a11 a12 a13 a14 a15 o, body a1 a2 a3 a4 a5 a6 a7 a8 a9 a10 a11 a12 a13 a14 a15 = some o → (∀ a12 a22 a32 a42 a52 a62 a72 a82 a92 a102 a112 a122 a132 a142 a152, o = .inl (a12, a22, a32, a42, a52, a62, a72, a82, a92, a102, a112, a122, a132, a142, a152) → Wd a12 a22 a32 a42 a52 a62 a72 a82 a92 a102 a112 a122 a132 a142 a152) → (∀ r, o = .inr r → X = r) → Wd a1 a2 a3 a4 a5 a6 a7 a8 a9 a10 a11 a12 a13 a14 a15) (N : Nat) (a1 : α1) (a2 : α2) (a3 : α3) (a4 : α4) (a5 : α5) (a6 : α6) (a7 : α7) (a8 : α8) (a9 : α9) (a10 : α10) (a11 : α11) (a12 : α12) (a13 : α13) (a14 : α14) (a15 : α15) (h : rs_l15 body N a1 a2 a3 a4 a5 a6 a7 a8 a9 a10 a11 a12 a13 a14 a15 = some X) : Wd a1 a2 a3 a4 a5 a6 a7 a8 a9 a10 a11 a12 a13 a14 a15 :=
  rs_loopW (body := fun s : (α1 × α2 × α3 × α4 × α5 × α6 × α7 × α8 × α9 × α10 × α11 × α12 × α13 × α14 × α15) => body s.1 s.2.1 s.2.2.1 s.2.2.2.1 s.2.2.2.2.1 s.2.2.2.2.2.1 s.2.2.2.2.2.2.1 s.2.2.2.2.2.2.2.1 s.2.2.2.2.2.2.2.2.1 s.2.2.2.2.2.2.2.2.2.1 s.2.2.2.2.2.2.2.2.2.2.1 s.2.2.2.2.2.2.2.2.2.2.2.1 s.2.2.2.2.2.2.2.2.2.2.2.2.1 s.2.2.2.2.2.2.2.2.2.2.2.2.2.1 s.2.2.2.2.2.2.2.2.2.2.2.2.2.2) (Wd := fun s => Wd s.1 s.2.1 s.2.2.1 s.2.2.2.1 s.2.2.2.2.1 s.2.2.2.2.2.1 s.2.2.2.2.2.2.1 s.2.2.2.2.2.2.2.1 s.2.2.2.2.2.2.2.2.1 s.2.2.2.2.2.2.2.2.2.1 s.2.2.2.2.2.2.2.2.2.2.1 s.2.2.2.2.2.2.2.2.2.2.2.1 s.2.2.2.2.2.2.2.2.2.2.2.2.1 s.2.2.2.2.2.2.2.2.2.2.2.2.2.1 s.2.2.2.2.2.2.2.2.2.2.2.2.2.2) (fun s o hb h1 h2 => step s.1 s.2.1 s.2.2.1 s.2.2.2.1 s.2.2.2.2.1 s.2.2.2.2.2.1 s.2.2.2.2.2.2.1 s.2.2.2.2.2.2.2.1 s.2.2.2.2.2.2.2.2.1 s.2.2.2.2.2.2.2.2.2.1 s.2.2.2.2.2.2.2.2.2.2.1 s.2.2.2.2.2.2.2.2.2.2.2.1 s.2.2.2.2.2.2.2.2.2.2.2.2.1 s.2.2.2.2.2.2.2.2.2.2.2.2.2.1 s.2.2.2.2.2.2.2.2.2.2.2.2.2.2 o hb (fun a12 a22 a32 a42 a52 a62 a72 a82 a92 a102 a112 a122 a132 a142 a152 e => h1 _ e) h2) N (a1, a2, a3, a4, a5, a6, a7, a8, a9, a10, a11, a12, a13, a14, a15) h
def rs_b16 {α1 α2 α3 α4 α5 α6 α7 α8 α9 α10 α11 α12 α13 α14 α15 α16 ζ : Type} (o : Option (α1 × α2 × α3 × α4 × α5 × α6 × α7 × α8 × α9 × α10 × α11 × α12 × α13 × α14 × α15 × α16)) (k : α1 → α2 → α3 → α4 → α5 → α6 → α7 → α8 → α9 → α10 → α11 → α12 → α13 → α14 → α15 → α16 → Option ζ) : Option ζ := match o with
  | none => none
  | some (a1, a2, a3, a4, a5, a6, a7, a8, a9, a10, a11, a12, a13, a14, a15, a16) => k a1 a2 a3 a4 a5 a6 a7 a8 a9 a10 a11 a12 a13 a14 a15 a16
theorem rs_b16s {α1 α2 α3 α4 α5 α6 α7 α8 α9 α10 α11 α12 α13 α14 α15 α16 ζ : Type} {o : Option (α1 × α2 × α3 × α4 × α5 × α6 × α7 × α8 × α9 × α10 × α11 × α12 × α13 × α14 × α15 × α16)} {k : α1 → α2 → α3 → α4 → α5 → α6 → α7 → α8 → α9 → α10 → α11 → α12 → α13 → α14 → α15 → α16 → Option ζ} {Z : ζ} (h : rs_b16 o k = some Z) : ∃ X, o = some X ∧ (∀ a1 a2 a3 a4 a5 a6 a7 a8 a9 a10 a11 a12 a13 a14 a15 a16, X = (a1, a2, a3, a4, a5, a6, a7, a8, a9, a10, a11, a12, a13, a14, a15, a16) → k a1 a2 a3 a4 a5 a6 a7 a8 a9 a10 a11 a12 a13 a14 a15 a16 = some Z) := by
  cases o with
  | none => cases h
  | some a => exact ⟨a, rfl, fun a1 a2 a3 a4 a5 a6 a7 a8 a9 a10 a11 a12 a13 a14 a15 a16 e => by subst e; exact h⟩
def rs_m16 {α1 α2 α3 α4 α5 α6 α7 α8 α9 α10 α11 α12 α13 α14 α15 α16 ζ : Type} (o : Option ((α1 × α2 × α3 × α4 × α5 × α6 × α7 × α8 × α9 × α10 × α11 × α12 × α13 × α14 × α15 × α16) ⊕ ζ)) (k : α1 → α2 → α3 → α4 → α5 → α6 → α7 → α8 → α9 → α10 → α11 → α12 → α13 → α14 → α15 → α16 → Option ζ) : Option ζ := match o with
  | none => none
  | some (.inl (a1, a2, a3, a4, a5, a6, a7, a8, a9, a10, a11, a12, a13, a14, a15, a16)) => k a1 a2 a3 a4 a5 a6 a7 a8 a9 a10 a11 a12 a13 a14 a15 a16
  | some (.inr z) => some z
theorem rs_m16s {α1 α2 α3 α4 α5 α6 α7 α8 α9 α10 α11 α12 α13 α14 α15 α16 ζ : Type} {o : Option ((α1 × α2 × α3 × α4 × α5 × α6 × α7 × α8 × α9 × α10 × α11 × α12 × α13 × α14 × α15 × α16) ⊕ ζ)} {k : α1 → α2 → α3 → α4 → α5 → α6 → α7 → α8 → α9 → α10 → α11 → α12 → α13 → α14 → α15 → α16 → Option ζ} {Z : ζ} (h : rs_m16 o k = some Z) : ∃ X, o = some X ∧ (∀ a1 a2 a3 a4 a5 a6 a7 a8 a9 a10 a11 a12 a13 a14 a15 a16, X = .inl (a1, a2, a3, a4, a5, a6, a7, a8, a9, a10, a11, a12, a13, a14, a15, a16) → k a1 a2 a3 a4 a5 a6 a7 a8 a9 a10 a11 a12 a13 a14 a15 a16 = some Z) ∧ (∀ r, X = .inr r → some r = some Z) := by
  cases o with
  | none => cases h
  | some a =>
    cases a with
    | inl a => exact ⟨_, rfl, fun a1 a2 a3 a4 a5 a6 a7 a8 a9 a10 a11 a12 a13 a14 a15 a16 e => (by cases e; exact h), fun r e => (by cases e)⟩
    | inr r => exact ⟨_, rfl, fun a1 a2 a3 a4 a5 a6 a7 a8 a9 a10 a11 a12 a13 a14 a15 a16 e => (by cases e), fun r2 e => (by cases e; exact h)⟩
def rs_l16 {α1 α2 α3 α4 α5 α6 α7 α8 α9 α10 α11 α12 α13 α14 α15 α16 ρ : Type} (body : α1 → α2 → α3 → α4 → α5 → α6 → α7 → α8 → α9 → α10 → α11 → α12 → α13 → α14 → α15 → α16 → Option ((α1 × α2 × α3 × α4 × α5 × α6 × α7 × α8 × α9 × α10 × α11 × α12 × α13 × α14 × α15 × α16) ⊕ ρ)) (N : Nat) (a1 : α1) (a2 : α2) (a3 : α3) (a4 : α4) (a5 : α5) (a6 : α6) (a7 : α7) (a8 : α8) (a9 : α9) (a10 : α10) (a11 : α11) (a12 : α12) (a13 : α13) (a14 : α14) (a15 : α15) (a16 : α16) : Option ρ := rs_loop (fun s : (α1 × α2 × α3 × α4 × α5 × α6 × α7 × α8 × α9 × α10 × α11 × α12 × α13 × α14 × α15 × α16) => body s.1 s.2.1 s.2.2.1 s.2.2.2.1 s.2.2.2.2.1 s.2.2.2.2.2.1 s.2.2.2.2.2.2.1 s.2.2.2.2.2.2.2.1 s.2.2.2.2.2.2.2.2.1 s.2.2.2.2.2.2.2.2.2.1 s.2.2.2.2.2.2.2.2.2.2.1 s.2.2.2.2.2.2.2.2.2.2.2.1 s.2.2.2.2.2.2.2.2.2.2.2.2.1 s.2.2.2.2.2.2.2.2.2.2.2.2.2.1 s.2.2.2.2.2.2.2.2.2.2.2.2.2.2.1 s.2.2.2.2.2.2.2.2.2.2.2.2.2.2.2) N (a1, a2, a3, a4, a5, a6, a7, a8, a9, a10, a11, a12, a13, a14, a15, a16)
theorem rs_l16W {α1 α2 α3 α4 α5 α6 α7 α8 α9 α10 α11 α12 α13 α14 α15 α16 ρ : Type} {body : α1 → α2 → α3 → α4 → α5 → α6 → α7 → α8 → α9 → α10 → α11 → α12 → α13 → α14 → α15 → α16 → Option ((α1 × α2 × α3 × α4 × α5 × α6 × α7 × α8 × α9 × α10 × α11 × α12 × α13 × α14 × α15 × α16) ⊕ ρ)} {Wd : α1 → α2 → α3 → α4 → α5 → α6 → α7 → α8 → α9 → α10 → α11 → α12 → α13 → α14 → α15 → α16 → Prop} {X : ρ} (step : ∀ a1 a2 a3 a4 a5 a6 a7 a8 a9 a10 a11 a12 a13 a14 a15 a16 o, body a1 a2 a3 a4 a5 a6 a7 a8 a9 a10 a11 a12 a13 a14 a15 a16 = some o → (∀ a12 a22 a32 a42 a52 a62 a72 a82 a92 a102 a112 a122 a132 a142 a152 a162, o = .inl (a12, a22, a32, a42, a52, a62, a72, a82, a92, a102, a112, a122, a132, a142, a152, a162) → Wd a12 a22 a32 a42 a52 a62 a72 a82 a92 a102 a112 a122 a132 a142 a152 a162) → (∀ r, o = .inr r → X = r) → Wd a1 a2 a3 a4 a5 a6 a7 a8 a9 a10 a11 a12 a13 a14 a15 a16) (N : Nat) (a1 : α1) (a2 : α2) (a3 : α3) (a4 : α4) (a5 : α5) (a6 : α6) (a7 : α7) (a8 : α8) (a9 : α9) (a10 : α10) (a11 : α11) (a12 : α12) (a13 : α13) (a14 : α14) (a15 : α15) (a16 : α16) (h : rs_l16 body N a1 a2 a3 a4 a5 a6 a7 a8 a9 a10 a11 a12 a13 a14 a15 a16 = some X) : Wd a1 a2 a3 a4 a5 a6 a7 a8 a9 a10 a11 a12 a13 a14 a15 a16 :=
  rs_loopW (body := fun s : (α1 × α2 × α3 × α4 × α5 × α6 × α7 × α8 × α9 × α10 × α11 × α12 × α13 × α14 × α15 × α16) => body s.1 s.2.1 s.2.2.1 s.2.2.2.1 s.2.2.2.2.1 s.2.2.2.2.2.1 s.2.2.2.2.2.2.1 s.2.2.2.2.2.2.2.1 s.2.2.2.2.2.2.2.2.1 s.2.2.2.2.2.2.2.2.2.1 s.2.2.2.2.2.2.2.2.2.2.1 s.2.2.2.2.2.2.2.2.2.2.2.1 s.2.2.2.2.2.2.2.2.2.2.2.2.1 s.2.2.2.2.2.2.2.2.2.2.2.2.2.1 s.2.2.2.2.2.2.2.2.2.2.2.2.2.2.1 s.2.2.2.2.2.2.2.2.2.2.2.2.2.2.2) (Wd := fun s => Wd s.1 s.2.1 s.2.2.1 s.2.2.2.1 s.2.2.2.2.1 s.2.2.2.2.2.1 s.2.2.2.2.2.2.1 s.2.2.2.2.2.2.2.1 s.2.2.2.2.2.2.2.2.1 s.2.2.2.2.2.2.2.2.2.1 s.2.2.2.2.2.2.2.2.2.2.1 s.2.2.2.2.2.2.2.2.2.2.2.1 s.2.2.2.2.2.2.2.2.2.2.2.2.1 s.2.2.2.2.2.2.2.2.2.2.2.2.2.1 s.2.2.2.2.2.2.2.2.2.2.2.2.2.2.1 s.2.2.2.2.2.2.2.2.2.2.2.2.2.2.2) (fun s o hb h1 h2 => step s.1 s.2.1 s.2.2.1 s.2.2.2.1 s.2.2.2.2.1 s.2.2.2.2.2.1 s.2.2.2.2.2.2.1 s.2.2.2.2.2.2.2.1 s.2.2.2.2.2.2.2.2.1 s.2.2.2.2.2.2.2.2.2.1 s.2.2.2.2.2.2.2.2.2.2.1 s.2.2.2.2.2.2.2.2.2.2.2.1 s.2.2.2.2.2.2.2.2.2.2.2.2.1 s.2.2.2.2.2.2.2.2.2.2.2.2.2.1 s.2.2.2.2.2.2.2.2.2.2.2.2.2.2.1 s.2.2.2.2.2.2.2.2.2.2.2.2.2.2.2 o hb (fun a12 a22 a32 a42 a52 a62 a72 a82 a92 a102 a112 a122 a132 a142 a152 a162 e => h1 _ e) h2) N (a1, a2, a3, a4, a5, a6, a7, a8, a9, a10, a11, a12, a13, a14, a15, a16) h
def rs_b17 {α1 α2 α3 α4 α5 α6 α7 α8 α9 α10 α11 α12 α13 α14 α15 α16 α17 ζ : Type} (o : Option (α1 × α2 × α3 × α4 × α5 × α6 × α7 × α8 × α9 × α10 × α11 × α12 × α13 × α14 × α15 × α16 × α17)) (k : α1 → α2 → α3 → α4 → α5 → α6 → α7 → α8 → α9 → α10 → α11 → α12 → α13 → α14 → α15 → α16 → α17 → Option ζ) : Option ζ := match o with
  | none => none
  | some (a1, a2, a3, a4, a5, a6, a7, a8, a9, a10, a11, a12, a13, a14, a15, a16, a17) => k a1 a2 a3 a4 a5 a6 a7 a8 a9 a10 a11 a12 a13 a14 a15 a16 a17
theorem rs_b17s {α1 α2 α3 α4 α5 α6 α7 α8 α9 α10 α11 α12 α13 α14 α15 α16 α17 ζ : Type} {o : Option (α1 × α2 × α3 × α4 × α5 × α6 × α7 × α8 × α9 × α10 × α11 × α12 × α13 × α14 × α15 × α16 × α17)} {k : α1 → α2 → α3 → α4 → α5 → α6 → α7 → α8 → α9 → α10 → α11 → α12 → α13 → α14 → α15 → α16 → α17 → Option ζ} {Z : ζ} (h : rs_b17 o k = some Z) : ∃ X, o = some X ∧ (∀ a1 a2 a3 a4 a5 a6 a7 a8 a9 a10 a11 a12 a13 a14 a15 a16 a17, X = (a1, a2, a3, a4, a5, a6, a7, a8, a9, a10, a11, a12, a13, a14, a15, a16, a17) → k a1 a2 a3 a4 a5 a6 a7 a8 a9 a10 a11 a12 a13 a14 a15 a16 a17 = some Z) := by
  cases o with
  | none => cases h
  | some a => exact ⟨a, rfl, fun a1 a2 a3 a4 a5 a6 a7 a8 a9 a10 a11 a12 a13 a14 a15 a16 a17 e => by subst e; exact h⟩
def rs_m17 {α1 α2 α3 α4 α5 α6 α7 α8 α9 α10 α11 α12 α13 α14 α15 α16 α17 ζ : Type} (o : Option ((α1 × α2 × α3 × α4 × α5 × α6 × α7 × α8 × α9 × α10 × α11 × α12 × α13 × α14 × α15 × α16 × α17) ⊕ ζ)) (k : α1 → α2 → α3 → α4 → α5 → α6 → α7 → α8 → α9 → α10 → α11 → α12 → α13 → α14 → α15 → α16 → α17 → Option ζ) : Option ζ := match o with
  | none => none
  | some (.inl (a1, a2, a3, a4, a5, a6, a7, a8, a9, a10, a11, a12, a13, a14, a15, a16, a17)) => k a1 a2 a3 a4 a5 a6 a7 a8 a9 a10 a11 a12 a13 a14 a15 a16 a17
  | some (.inr z) => some z
theorem rs_m17s {α1 α2 α3 α4 α5 α6 α7 α8 α9 α10 α11 α12 α13 α14 α15 α16 α17 ζ : Type} {o : Option ((α1 × α2 × α3 × α4 × α5 × α6 × α7 × α8 × α9 × α10 × α11 × α12 × α13 × α14 × α15 × α16 × α17) ⊕ ζ)} {k : α1 → α2 → α3 → α4 → α5 → α6 → α7 → α8 → α9 → α10 → α11 → α12 → α13 → α14 → α15 → α16 → α17 → Option ζ} {Z : ζ} (h : rs_m17 o k = some Z) : ∃ X, o = some X ∧ (∀ a1 a2 a3 a4 a5 a6 a7 a8 a9 a10 a11 a12 a13 a14 a15 a16 a17, X = .inl (a1, a2, a3, a4, a5, a6, a7, a8, a9, a10, a11, a12, a13, a14, a15, a16, a17) → k a1 a2 a3 a4 a5 a6 a7 a8 a9 a10 a11 a12 a13 a14 a15 a16 a17 = some Z) ∧ (∀ r, X = .inr r → some r = some Z) := by
  cases o with
  | none => cases h
  | some a =>
    cases a with
    | inl a => exact ⟨_, rfl, fun a1 a2 a3 a4 a5 a6 a7 a8 a9 a10 a11 a12 a13 a14 a15 a16 a17 e => (by cases e; exact h), fun r e => (by cases e)⟩
    | inr r => exact ⟨_, rfl, fun a1 a2 a3 a4 a5 a6 a7 a8 a9 a10 a11 a12 a13 a14 a15 a16 a17 e => (by cases e), fun r2 e => (by cases e; exact h)⟩
def rs_l17 {α1 α2 α3 α4 α5 α6 α7 α8 α9 α10 α11 α12 α13 α14 α15 α16 α17 ρ : Type} (body : α1 → α2 → α3 → α4 → α5 → α6 → α7 → α8 → α9 → α10 → α11 → α12 → α13 → α14 → α15 → α16 → α17 → Option ((α1 × α2 × α3 × α4 × α5 × α6 × α7 × α8 × α9 × α10 × α11 × α12 × α13 × α14 × α15 × α16 × α17) ⊕ ρ)) (N : Nat) (a1 : α1) (a2 : α2) (a3 : α3) (a4 : α4) (a5 : α5) (a6 : α6) (a7 : α7) (a8 : α8) (a9 : α9) (a10 : α10) (a11 : α11) (a12 : α12) (a13 : α13) (a14 : α14) (a15 : α15) (a16 : α16) (a17 : α17) : Option ρ := rs_loop (fun s : (α1 × α2 × α3 × α4 × α5 × α6 × α7 × α8 × α9 × α10 × α11 × α12 × α13 × α14 × α15 × α16 × α17) => body s.1 s.2.1 s.2.2.1 s.2.2.2.1 s.2.2.2.2.1 s.2.2.2.2.2.1 s.2.2.2.2.2.2.1 s.2.2.2.2.2.2.2.1 s.2.2.2.2.2.2.2.2.1 s.2.2.2.2.2.2.2.2.2.1 s.2.2.2.2.2.2.2.2.2.2.1 s.2.2.2.2.2.2.2.2.2.2.2.1 s.2.2.2.2.2.2.2.2.2.2.2.2.1 s.2.2.2.2.2.2.2.2.2.2.2.2.2.1 s.2.2.2.2.2.2.2.2.2.2.2.2.2.2.1 s.2.2.2.2.2.2.2.2.2.2.2.2.2.2.2.1 s.2.2.2.2.2.2.2.2.2.2.2.2.2.2.2.2) N (a1, a2, a3, a4, a5, a6, a7, a8, a9, a10, a11, a12, a13, a14, a15, a16, a17)
theorem rs_l17W {α1 α2 α3 α4 α5 α6 α7 α8 α9 α10 α11 α12 α13 α14 α15 α16 α17 ρ : Type} {body : α1 → α2 → α3 → α4 → α5 → α6 → α7 → α8 → α9 → α10 → α11 → α12 → α13 → α14 → α15 → α16 → α17 → Option ((α1 × α2 × α3 × α4 × α5 × α6 × α7 × α8 × α9 × α10 × α11 × α12 × α13 × α14 × α15 × α16 × α17) ⊕ ρ)} {Wd : α1 → α2 → α3 → α4 → α5 → α6 → α7 → α8 → α9 → α10 → α11 → α12 → α13 → α14 → α15 → α16 → α17 → Prop} {X : ρ} (step : ∀ a1 a2 a3 a4 a5 a6 a7 a8 a9 a10 a11 a12 a13 a14 a15 a16 a17 o, body a1 a2 a3 a4 a5 a6 a7 a8 a9 a10 a11 a12 a13 a14 a15 a16 a17 = some o → (∀ a12 a22 a32 a42 a52 a62 a72 a82 a92 a102 a112 a122 a132 a142 a152 a162 a172, o = .inl (a12, a22, a32, a42, a52, a62, a72, a82, a92, a102, a112, a122, a132, a142, a152, a162, a172) → Wd a12 a22 a32 a42 a52 a62 a72 a82 a92 a102 a112 a122 a132 a142 a152 a162 a172) → (∀ r, o = .inr r → X = r) → Wd a1 a2 a3 a4 a5 a6 a7 a8 a9 a10 a11 a12 a13 a14 a15 a16 a17) (N : Nat) (a1 : α1) (a2 : α2) (a3 : α3) (a4 : α4) (a5 : α5) (a6 : α6) (a7 : α7) (a8 : α8) (a9 : α9) (a10 : α10) (a11 : α11) (a12 : α12) (a13 : α13) (a14 : α14) (a15 : α15) (a16 : α16) (a17 : α17) (h : rs_l17 body N a1 a2 a3 a4 a5 a6 a7 a8 a9 a10 a11 a12 a13 a14 a15 a16 a17 = some X) : Wd a1 a2 a3 a4 a5 a6 a7 a8 a9 a10 a11 a12 a13 a14 a15 a16 a17 :=
  rs_loopW (body := fun s : (α1 × α2 × α3 × α4 × α5 × α6 × α7 × α8 × α9 × α10 × α11 × α12 × α13 × α14 × α15 × α16 × α17) => body s.1 s.2.1 s.2.2.1 s.2.2.2.1 s.2.2.2.2.1 s.2.2.2.2.2.1 s.2.2.2.2.2.2.1 s.2.2.2.2.2.2.2.1 s.2.2.2.2.2.2.2.2.1 s.2.2.2.2.2.2.2.2.2.1 s.2.2.2.2.2.2.2.2.2.2.1 s.2.2.2.2.2.2.2.2.2.2.2.1 s.2.2.2.2.2.2.2.2.2.2.2.2.1 s.2.2.2.2.2.2.2.2.2.2.2.2.2.1 s.2.2.2.2.2.2.2.2.2.2.2.2.2.2.1 s.2.2.2.2.2.2.2.2.2.2.2.2.2.2.2.1 s.2.2.2.2.2.2.2.2.2.2.2.2.2.2.2.2) (Wd := fun s => Wd s.1 s.2.1 s.2.2.1 s.2.2.2.1 s.2.2.2.2.1 s.2.2.2.2.2.1 s.2.2.2.2.2.2.1 s.2.2.2.2.2.2.2.1 s.2.2.2.2.2.2.2.2.1 s.2.2.2.2.2.2.2.2.2.1 s.2.2.2.2.2.2.2.2.2.2.1 s.2.2.2.2.2.2.2.2.2.2.2.1 s.2.2.2.2.2.2.2.2.2.2.2.2.1 s.2.2.2.2.2.2.2.2.2.2.2.2.2.1 s.2.2.2.2.2.2.2.2.2.2.2.2.2.2.1 s.2.2.2.2.2.2.2.2.2.2.2.2.2.2.2.1 s.2.2.2.2.2.2.2.2.2.2.2.2.2.2.2.2) (fun s o hb h1 h2 => step s.1 s.2.1 s.2.2.1 s.2.2.2.1 s.2.2.2.2.1 s.2.2.2.2.2.1 s.2.2.2.2.2.2.1 s.2.2.2.2.2.2.2.1 s.2.2.2.2.2.2.2.2.1 s.2.2.2.2.2.2.2.2.2.1 s.2.2.2.2.2.2.2.2.2.2.1 s.2.2.2.2.2.2.2.2.2.2.2.1 s.2.2.2.2.2.2.2.2.2.2.2.2.1 s.2.2.2.2.2.2.2.2.2.2.2.2.2.1 s.2.2.2.2.2.2.2.2.2.2.2.2.2.2.1 s.2.2.2.2.2.2.2.2.2.2.2.2.2.2.2.1 s.2.2.2.2.2.2.2.2.2.2.2.2.2.2.2.2 o hb (fun a12 a22 a32 a42 a52 a62 a72 a82 a92 a102 a112 a122 a132 a142 a152 a162 a172 e => h1 _ e) h2) N (a1, a2, a3, a4, a5, a6, a7, a8, a9, a10, a11, a12, a13, a14, a15, a16, a17) h
def rs_b18 {α1 α2 α3 α4 α5 α6 α7 α8 α9 α10 α11 α12 α13 α14 α15 α16 α17 α18 ζ : Type} (o : Option (α1 × α2 × α3 × α4 × α5 × α6 × α7 × α8 × α9 × α10 × α11 × α12 × α13 × α14 × α15 × α16 × α17 × α18)) (k : α1 → α2 → α3 → α4 → α5 → α6 → α7 → α8 → α9 → α10 → α11 → α12 → α13 → α14 → α15 → α16 → α17 → α18 → Option ζ) : Option ζ := match o with
  | none => none
  | some (a1, a2, a3, a4, a5, a6, a7, a8, a9, a10, a11, a12, a13, a14, a15, a16, a17, a18) => k a1 a2 a3 a4 a5 a6 a7 a8 a9 a10 a11 a12 a13 a14 a15 a16 a17 a18
theorem rs_b18s {α1 α2 α3 α4 α5 α6 α7 α8 α9 α10 α11 α12 α13 α14 α15 α16 α17 α18 ζ : Type} {o : Option (α1 × α2 × α3 × α4 × α5 × α6 × α7 × α8 × α9 × α10 × α11 × α12 × α13 × α14 × α15 × α16 × α17 × α18)} {k : α1 → α2 → α3 → α4 → α5 → α6 → α7 → α8 → α9 → α10 → α11 → α12 → α13 → α14 → α15 → α16 → α17 → α18 → Option ζ} {Z : ζ} (h : rs_b18 o k = some Z) : ∃ X, o = some X ∧ (∀ a1 a2 a3 a4 a5 a6 a7 a8 a9 a10 a11 a12 a13 a14 a15 a16 a17 a18, X = (a1, a2, a3, a4, a5, a6, a7, a8, a9, a10, a11, a12, a13, a14, a15, a16, a17, a18) → k a1 a2 a3 a4 a5 a6 a7 a8 a9 a10 a11 a12 a13 a14 a15 a16 a17 a18 = some Z) := by
  cases o with
  | none => cases h
  | some a => exact ⟨a, rfl, fun a1 a2 a3 a4 a5 a6 a7 a8 a9 a10 a11 a12 a13 a14 a15 a16 a17 a18 e => by subst e; exact h⟩
def rs_m18 {α1 α2 α3 α4 α5 α6 α7 α8 α9 α10 α11 α12 α13 α14 α15 α16 α17 α18 ζ : Type} (o : Option ((α1 × α2 × α3 × α4 × α5 × α6 × α7 × α8 × α9 × α10 × α11 × α12 × α13 × α14 × α15 × α16 × α17 × α18) ⊕ ζ)) (k : α1 → α2 → α3 → α4 → α5 → α6 → α7 → α8 → α9 → α10 → α11 → α12 → α13 → α14 → α15 → α16 → α17 → α18 → Option ζ) : Option ζ := match o with
  | none => none
  | some (.inl (a1, a2, a3, a4, a5, a6, a7, a8, a9, a10, a11, a12, a13, a14, a15, a16, a17, a18)) => k a1 a2 a3 a4 a5 a6 a7 a8 a9 a10 a11 a12 a13 a14 a15 a16 a17 a18
  | some (.inr z) => some z
theorem rs_m18s {α1 α2 α3 α4 α5 α6 α7 α8 α9 α10 α11 α12 α13 α14 α15 α16 α17 α18 ζ : Type} {o : Option ((α1 × α2 × α3 × α4 × α5 × α6 × α7 × α8 × α9 × α10 × α11 × α12 × α13 × α14 × α15 × α16 × α17 × α18) ⊕ ζ)} {k : α1 → α2 → α3 → α4 → α5 → α6 → α7 → α8 → α9 → α10 → α11 → α12 → α13 → α14 → α15 → α16 → α17 → α18 → Option ζ} {Z : ζ} (h : rs_m18 o k = some Z) : ∃ X, o = some X ∧ (∀ a1 a2 a3 a4 a5 a6 a7 a8 a9 a10 a11 a12 a13 a14 a15 a16 a17 a18, X = .inl (a1, a2, a3, a4, a5, a6, a7, a8, a9, a10, a11, a12, a13, a14, a15, a16, a17, a18) → k a1 a2 a3 a4 a5 a6 a7 a8 a9 a10 a11 a12 a13 a14 a15 a16 a17 a18 = some Z) ∧ (∀ r, X = .inr r → some r = some Z) := by
  cases o with
  | none => cases h
  | some a =>
    cases a with
    | inl a => exact ⟨_, rfl, fun a1 a2 a3 a4 a5 a6 a7 a8 a9 a10 a11 a12 a13 a14 a15 a16 a17 a18 e => (by cases e; exact h), fun r e => (by cases e)⟩
    | inr r => exact ⟨_, rfl, fun a1 a2 a3 a4 a5 a6 a7 a8 a9 a10 a11 a12 a13 a14 a15 a16 a17 a18 e => (by cases e), fun r2 e => (by cases e; exact h)⟩
def rs_l18 {α1 α2 α3 α4 α5 α6 α7 α8 α9 α10 α11 α12 α13 α14 α15 α16 α17 α18 ρ : Type} (body : α1 → α2 → α3 → α4 → α5 → α6 → α7 → α8 → α9 → α10 → α11 → α12 → α13 → α14 → α15 → α16 → α17 → α18 → Option ((α1 × α2 × α3 × α4 × α5 × α6 × α7 × α8 × α9 × α10 × α11 × α12 × α13 × α14 × α15 × α16 × α17 × α18) ⊕ ρ)) (N : Nat) (a1 : α1) (a2 : α2) (a3 : α3) (a4 : α4) (a5 : α5) (a6 : α6) (a7 : α7) (a8 : α8) (a9 : α9) (a10 : α10) (a11 : α11) (a12 : α12) (a13 : α13) (a14 : α14) (a15 : α15) (a16 : α16) (a17 : α17) (a18 : α18) : Option ρ := rs_loop (fun s : (α1 × α2 × α3 × α4 × α5 × α6 × α7 × α8 × α9 × α10 × α11 × α12 × α13 × α14 × α15 × α16 × α17 × α18) => body s.1 s.2.1 s.2.2.1 s.2.2.2.1 s.2.2.2.2.1 s.2.2.2.2.2.1 s.2.2.2.2.2.2.1 s.2.2.2.2.2.2.2.1 s.2.2.2.2.2.2.2.2.1 s.2.2.2.2.2.2.2.2.2.1 s.2.2.2.2.2.2.2.2.2.2.1 s.2.2.2.2.2.2.2.2.2.2.2.1 s.2.2.2.2.2.2.2.2.2.2.2.2.1 s.2.2.2.2.2.2.2.2.2.2.2.2.2.1 s.2.2.2.2.2.2.2.2.2.2.2.2.2.2.1 s.2.2.2.2.2.2.2.2.2.2.2.2.2.2.2.1 s.2.2.2.2.2.2.2.2.2.2.2.2.2.2.2.2.1 s.2.2.2.2.2.2.2.2.2.2.2.2.2.2.2.2.2) N (a1, a2, a3, a4, a5, a6, a7, a8, a9, a10, a11, a12, a13, a14, a15, a16, a17, a18)
theorem rs_l18W {α1 α2 α3 α4 α5 α6 α7 α8 α9 α10 α11 α12 α13 α14 α15 α16 α17 α18 ρ : Type} {body : α1 → α2 → α3 → α4 → α5 → α6 → α7 → α8 → α9 → α10 → α11 → α12 → α13 → α14 → α15 → α16 → α17 → α18 → Option ((α1 × α2 × α3 × α4 × α5 × α6 × α7 × α8 × α9 × α10 × α11 × α12 × α13 × α14 × α15 × α16 × α17 × α18) ⊕ ρ)} {Wd : α1 → α2 → α3 → α4 → α5 → α6 → α7 → α8 → α9 → α10 → α11 → α12 → α13 → α14 → α15 → α16 → α17 → α18 → Prop} {X : ρ} (step : ∀ a1 a2 a3 a4 a5 a6 a7 a8 a9 a10 a11 a12 a13 a14 a15 a16 a17 a18 o, body a1 a2 a3 a4 a5 a6 a7 a8 a9 a10 a11 a12 a13 a14 a15 a16 a17 a18 = some o → (∀ a12 a22 a32 a42 a52 a62 a72 a82 a92 a102 a112 a122 a132 a142 a152 a162 a172 a182, o = .inl (a12, a22, a32, a42, a52, a62, a72, a82, a92, a102, a112, a122, a132, a142, a152, a162, a172, a182) → Wd a12 a22 a32 a42 a52 a62 a72 a82 a92 a102 a112 a122 a132 a142 a152 a162 a172 a182) → (∀ r, o = .inr r → X = r) → Wd a1 a2 a3 a4 a5 a6 a7 a8 a9 a10 a11 a12 a13 a14 a15 a16 a17 a18) (N : Nat) (a1 : α1) (a2 : α2) (a3 : α3) (a4 : α4) (a5 : α5) (a6 : α6) (a7 : α7) (a8 : α8) (a9 : α9) (a10 : α10) (a11 : α11) (a12 : α12) (a13 : α13) (a14 : α14) (a15 : α15) (a16 : α16) (a17 : α17) (a18 : α18) (h : rs_l18 body N a1 a2 a3 a4 a5 a6 a7 a8 a9 a10 a11 a12 a13 a14 a15 a16 a17 a18 = some X) : Wd a1 a2 a3 a4 a5 a6 a7 a8 a9 a10 a11 a12 a13 a14 a15 a16 a17 a18 :=
  rs_loopW (body := fun s : (α1 × α2 × α3 × α4 × α5 × α6 × α7 × α8 × α9 × α10 × α11 × α12 × α13 × α14 × α15 × α16 × α17 × α18) => body s.1 s.2.1 s.2.2.1 s.2.2.2.1 s.2.2.2.2.1 s.2.2.2.2.2.1 s.2.2.2.2.2.2.1 s.2.2.2.2.2.2.2.1 s.2.2.2.2.2.2.2.2.1 s.2.2.2.2.2.2.2.2.2.1 s.2.2.2.2.2.2.2.2.2.2.1 s.2.2.2.2.2.2.2.2.2.2.2.1 s.2.2.2.2.2.2.2.2.2.2.2.2.1 s.2.2.2.2.2.2.2.2.2.2.2.2.2.1 s.2.2.2.2.2.2.2.2.2.2.2.2.2.2.1 s.2.2.2.2.2.2.2.2.2.2.2.2.2.2.2.1 s.2.2.2.2.2.2.2.2.2.2.2.2.2.2.2.2.1 s.2.2.2.2.2.2.2.2.2.2.2.2.2.2.2.2.2) (Wd := fun s => Wd s.1 s.2.1 s.2.2.1 s.2.2.2.1 s.2.2.2.2.1 s.2.2.2.2.2.1 s.2.2.2.2.2.2.1 s.2.2.2.2.2.2.2.1 s.2.2.2.2.2.2.2.2.1 s.2.2.2.2.2.2.2.2.2.1 s.2.2.2.2.2.2.2.2.2.2.1 s.2.2.2.2.2.2.2.2.2.2.2.1 s.2.2.2.2.2.2.2.2.2.2.2.2.1 s.2.2.2.2.2.2.2.2.2.2.2.2.2.1 s.2.2.2.2.2.2.2.2.2.2.2.2.2.2.1 s.2.2.2.2.2.2.2.2.2.2.2.2.2.2.2.1 s.2.2.2.2.2.2.2.2.2.2.2.2.2.2.2.2.1 s.2.2.2.2.2.2.2.2.2.2.2.2.2.2.2.2.2) (fun s o hb h1 h2 => step s.1 s.2.1 s.2.2.1 s.2.2.2.1 s.2.2.2.2.1 s.2.2.2.2.2.1 s.2.2.2.2.2.2.1 s.2.2.2.2.2.2.2.1 s.2.2.2.2.2.2.2.2.1 s.2.2.2.2.2.2.2.2.2.1 s.2.2.2.2.2.2.2.2.2.2.1 s.2.2.2.2.2.2.2.2.2.2.2.1 s.2.2.2.2.2.2.2.2.2.2.2.2.1 s.2.2.2.2.2.2.2.2.2.2.2.2.2.1 s.2.2.2.2.2.2.2.2.2.2.2.2.2.2.1 s.2.2.2.2.2.2.2.2.2.2.2.2.2.2.2.1 s.2.2.2.2.2.2.2.2.2.2.2.2.2.2.2.2.1 s.2.2.2.2.2.2.2.2.2.2.2.2.2.2.2.2.2 o hb (fun a12 a22 a32 a42 a52 a62 a72 a82 a92 a102 a112 a122 a132 a142 a152 a162 a172 a182 e => h1 _ e) h2) N (a1, a2, a3, a4, a5, a6, a7, a8, a9, a10, a11, a12, a13, a14, a15, a16, a17, a18) h
def rs_b19 {α1 α2 α3 α4 α5 α6 α7 α8 α9 α10 α11 α12 α13 α14 α15 α16 α17 α18 α19 ζ : Type} (o : Option (α1 × α2 × α3 × α4 × α5 × α6 × α7 × α8 × α9 × α10 × α11 × α12 × α13 × α14 × α15 × α16 × α17 × α18 × α19)) (k : α1 → α2 → α3 → α4 → α5 → α6 → α7 → α8 → α9 → α10 → α11 → α12 → α13 → α14 → α15 → α16 → α17 → α18 → α19 → Option ζ) : Option ζ := match o with
  | none => none
  | some (a1, a2, a3, a4, a5, a6, a7, a8, a9, a10, a11, a12, a13, a14, a15, a16, a17, a18, a19) => k a1 a2 a3 a4 a5 a6 a7 a8 a9 a10 a11 a12 a13 a14 a15 a16 a17 a18 a19
theorem rs_b19s {α1 α2 α3 α4 α5 α6 α7 α8 α9 α10 α11 α12 α13 α14 α15 α16 α17 α18 α19 ζ : Type} {o : Option (α1 × α2 × α3 × α4 × α5 × α6 × α7 × α8 × α9 × α10 × α11 × α12 × α13 × α14 × α15 × α16 × α17 × α18 × α19)} {k : α1 → α2 → α3 → α4 → α5 → α6 → α7 → α8 → α9 → α10 → α11 → α12 → α13 → α14 → α15 → α16 → α17 → α18 → α19 → Option ζ} {Z : ζ} (h : rs_b19 o k = some Z) : ∃ X, o = some X ∧ (∀ a1 a2 a3 a4 a5 a6 a7 a8 a9 a10 a11 a12 a13 a14 a15 a16 a17 a18 a19, X = (a1, a2, a3, a4, a5, a6, a7, a8, a9, a10, a11, a12, a13, a14, a15, a16, a17, a18, a19) → k a1 a2 a3 a4 a5 a6 a7 a8 a9 a10 a11 a12 a13 a14 a15 a16 a17 a18 a19 = some Z) := by
  cases o with
  | none => cases h
  | some a => exact ⟨a, rfl, fun a1 a2 a3 a4 a5 a6 a7 a8 a9 a10 a11 a12 a13 a14 a15 a16 a17 a18 a19 e => by subst e; exact h⟩
def rs_m19 {α1 α2 α3 α4 α5 α6 α7 α8 α9 α10 α11 α12 α13 α14 α15 α16 α17 α18 α19 ζ : Type} (o : Option ((α1 × α2 × α3 × α4 × α5 × α6 × α7 × α8 × α9 × α10 × α11 × α12 × α13 × α14 × α15 × α16 × α17 × α18 × α19) ⊕ ζ)) (k : α1 → α2 → α3 → α4 → α5 → α6 → α7 → α8 → α9 → α10 → α11 → α12 → α13 → α14 → α15 → α16 → α17 → α18 → α19 → Option ζ) : Option ζ := match o with
  | none => none
  | some (.inl (a1, a2, a3, a4, a5, a6, a7, a8, a9, a10, a11, a12, a13, a14, a15, a16, a17, a18, a19)) => k a1 a2 a3 a4 a5 a6 a7 a8 a9 a10 a11 a12 a13 a14 a15 a16 a17 a18 a19
  | some (.inr z) => some z
theorem rs_m19s {α1 α2 α3 α4 α5 α6 α7 α8 α9 α10 α11 α12 α13 α14 α15 α16 α17 α18 α19 ζ : Type} {o : Option ((α1 × α2 × α3 × α4 × α5 × α6 × α7 × α8 × α9 × α10 × α11 × α12 × α13 × α14 × α15 × α16 × α17 × α18 × α19) ⊕ ζ)} {k : α1 → α2 → α3 → α4 → α5 → α6 → α7 → α8 → α9 → α10 → α11 → α12 → α13 → α14 → α15 → α16 → α17 → α18 → α19 → Option ζ} {Z : ζ} (h : rs_m19 o k = some Z) : ∃ X, o = some X ∧ (∀ a1 a2 a3 a4 a5 a6 a7 a8 a9 a10 a11 a12 a13 a14 a15 a16 a17 a18 a19, X = .inl (a1, a2, a3, a4, a5, a6, a7, a8, a9, a10, a11, a12, a13, a14, a15, a16, a17, a18, a19) → k a1 a2 a3 a4 a5 a6 a7 a8 a9 a10 a11 a12 a13 a14 a15 a16 a17 a18 a19 = some Z) ∧ (∀ r, X = .inr r → some r = some Z) := by
  cases o with
  | none => cases h
  | some a =>
    cases a with
    | inl a => exact ⟨_, rfl, fun a1 a2 a3 a4 a5 a6 a7 a8 a9 a10 a11 a12 a13 a14 a15 a16 a17 a18 a19 e => (by cases e; exact h), fun r e => (by cases e)⟩
    | inr r => exact ⟨_, rfl, fun a1 a2 a3 a4 a5 a6 a7 a8 a9 a10 a11 a12 a13 a14 a15 a16 a17 a18 a19 e => (by cases e), fun r2 e => (by cases e; exact h)⟩
def rs_l19 {α1 α2 α3 α4 α5 α6 α7 α8 α9 α10 α11 α12 α13 α14 α15 α16 α17 α18 α19 ρ : Type} (body : α1 → α2 → α3 → α4 → α5 → α6 → α7 → α8 → α9 → α10 → α11 → α12 → α13 → α14 → α15 → α16 → α17 → α18 → α19 → Option ((α1 × α2 × α3 × α4 × α5 × α6 × α7 × α8 × α9 × α10 × α11 × α12 × α13 × α14 × α15 × α16 × α17 × α18 × α19) ⊕ ρ)) (N : Nat) (a1 : α1) (a2 : α2) (a3 : α3) (a4 : α4) (a5 : α5) (a6 : α6) (a7 : α7) (a8 : α8) (a9 : α9) (a10 : α10) (a11 : α11) (a12 : α12) (a13 : α13) (a14 : α14) (a15 : α15) (a16 : α16) (a17 : α17) (a18 : α18) (a19 : α19) : Option ρ := rs_loop (fun s : (α1 × α2 × α3 × α4 × α5 × α6 × α7 × α8 × α9 × α10 × α11 × α12 × α13 × α14 × α15 × α16 × α17 × α18 × α19) => body s.1 s.2.1 s.2.2.1 s.2.2.2.1 s.2.2.2.2.1 s.2.2.2.2.2.1 s.2.2.2.2.2.2.1 s.2.2.2.2.2.2.2.1 s.2.2.2.2.2.2.2.2.1 s.2.2.2.2.2.2.2.2.2.1 s.2.2.2.2.2.2.2.2.2.2.1 s.2.2.2.2.2.2.2.2.2.2.2.1 s.2.2.2.2.2.2.2.2.2.2.2.2.1 s.2.2.2.2.2.2.2.2.2.2.2.2.2.1 s.2.2.2.2.2.2.2.2.2.2.2.2.2.2.1 s.2.2.2.2.2.2.2.2.2.2.2.2.2.2.2.1 s.2.2.2.2.2.2.2.2.2.2.2.2.2.2.2.2.1 s.2.2.2.2.2.2.2.2.2.2.2.2.2.2.2.2.2.1 s.2.2.2.2.2.2.2.2.2.2.2.2.2.2.2.2.2.2) N (a1, a2, a3, a4, a5, a6, a7, a8, a9, a10, a11, a12, a13, a14, a15, a16, a17, a18, a19)
theorem rs_l19W {α1 α2 α3 α4 α5 α6 α7 α8 α9 α10 α11 α12 α13 α14 α15 α16 α17 α18 α19 ρ : Type} {body : α1 → α2 → α3 → α4 → α5 → α6 → α7 → α8 → α9 → α10 → α11 → α12 → α13 → α14 → α15 → α16 → α17 → α18 → α19 → Option ((α1 × α2 × α3 × α4 × α5 × α6 × α7 × α8 × α9 × α10 × α11 × α12 × α13 × α14 × α15 × α16 × α17 × α18 × α19) ⊕ ρ)} {Wd : α1 → α2 → α3 → α4 → α5 → α6 → α7 → α8 → α9 → α10 → α11 → α12 → α13 → α14 → α15 → α16 → α17 → α18 → α19 → Prop} {X : ρ} (step : ∀ a1 a2 a3 a4 a5 a6 a7 a8 a9 a10 a11 a12 a13 a14 a15 a16 a17 a18 a19 o, body a1 a2 a3 a4 a5 a6 a7 a8 a9 a10 a11 a12 a13 a14 a15 a16 a17 a18 a19 = some o → (∀ a12 a22 a32 a42 a52 a62 a72 a82 a92 a102 a112 a122 a132 a142 a152 a162 a172 a182 a192, o = .inl (a12, a22, a32, a42, a52, a62, a72, a82, a92, a102, a112, a122, a132, a142, a152, a162, a172, a182, a192) → Wd a12 a22 a32 a42 a52 a62 a72 a82 a92 a102 a112 a122 a132 a142 a152 a162 a172 a182 a192) → (∀ r, o = .inr r → X = r) → Wd a1 a2 a3 a4 a5 a6 a7 a8 a9 a10 a11 a12 a13 a14 a15 a16 a17 a18 a19) (N : Nat) (a1 : α1) (a2 : α2) (a3 : α3) (a4 : α4) (a5 : α5) (a6 : α6) (a7 : α7) (a8 : α8) (a9 : α9) (a10 : α10) (a11 : α11) (a12 : α12) (a13 : α13) (a14 : α14) (a15 : α15) (a16 : α16) (a17 : α17) (a18 : α18) (a19 : α19) (h : rs_l19 body N a1 a2 a3 a4 a5 a6 a7 a8 a9 a10 a11 a12 a13 a14 a15 a16 a17 a18 a19 = some X) : Wd a1 a2 a3 a4 a5 a6 a7 a8 a9 a10 a11 a12 a13 a14 a15 a16 a17 a18 a19 :=
  rs_loopW (body := fun s : (α1 × α2 × α3 × α4 × α5 × α6 × α7 × α8 × α9 × α10 × α11 × α12 × α13 × α14 × α15 × α16 × α17 × α18 × α19) => body s.1 s.2.1 s.2.2.1 s.2.2.2.1 s.2.2.2.2.1 s.2.2.2.2.2.1 s.2.2.2.2.2.2.1 s.2.2.2.2.2.2.2.1 s.2.2.2.2.2.2.2.2.1 s.2.2.2.2.2.2.2.2.2.1 s.2.2.2.2.2.2.2.2.2.2.1 s.2.2.2.2.2.2.2.2.2.2.2.1 s.2.2.2.2.2.2.2.2.2.2.2.2.1 s.2.2.2.2.2.2.2.2.2.2.2.2.2.1 s.2.2.2.2.2.2.2.2.2.2.2.2.2.2.1 s.2.2.2.2.2.2.2.2.2.2.2.2.2.2.2.1 s.2.2.2.2.2.2.2.2.2.2.2.2.2.2.2.2.1 s.2.2.2.2.2.2.2.2.2.2.2.2.2.2.2.2.2.1 s.2.2.2.2.2.2.2.2.2.2.2.2.2.2.2.2.2.2) (Wd := fun s => Wd s.1 s.2.1 s.2.2.1 s.2.2.2.1 s.2.2.2.2.1 s.2.2.2.2.2.1 s.2.2.2.2.2.2.1 s.2.2.2.2.2.2.2.1 s.2.2.2.2.2.2.2.2.1 s.2.2.2.2.2.2.2.2.2.1 s.2.2.2.2.2.2.2.2.2.2.1 s.2.2.2.2.2.2.2.2.2.2.2.1 s.2.2.2.2.2.2.2.2.2.2.2.2.1 s.2.2.2.2.2.2.2.2.2.2.2.2.2.1 s.2.2.2.2.2.2.2.2.2.2.2.2.2.2.1 s.2.2.2.2.2.2.2.2.2.2.2.2.2.2.2.1 s.2.2.2.2.2.2.2.2.2.2.2.2.2.2.2.2.1 s.2.2.2.2.2.2.2.2.2.2.2.2.2.2.2.2.2.1 s.2.2.2.2.2.2.2.2.2.2.2.2.2.2.2.2.2.2) (fun s o hb h1 h2 => step s.1 s.2.1 s.2.2.1 s.2.2.2.1 s.2.2.2.2.1 s.2.2.2.2.2.1 s.2.2.2.2.2.2.1 s.2.2.2.2.2.2.2.1 s.2.2.2.2.2.2.2.2.1 s.2.2.2.2.2.2.2.2.2.1 s.2.2.2.2.2.2.2.2.2.2.1 s.2.2.2.2.2.2.2.2.2.2.2.1 s.2.2.2.2.2.2.2.2.2.2.2.2.1 s.2.2.2.2.2.2.2.2.2.2.2.2.2.1 s.2.2.2.2.2.2.2.2.2.2.2.2.2.2.1 s.2.2.2.2.2.2.2.2.2.2.2.2.2.2.2.1 s.2.2.2.2.2.2.2.2.2.2.2.2.2.2.2.2.1 s.2.2.2.2.2.2.2.2.2.2.2.2.2.2.2.2.2.1 s.2.2.2.2.2.2.2.2.2.2.2.2.2.2.2.2.2.2 o hb (fun a12 a22 a32 a42 a52 a62 a72 a82 a92 a102 a112 a122 a132 a142 a152 a162 a172 a182 a192 e => h1 _ e) h2) N (a1, a2, a3, a4, a5, a6, a7, a8, a9, a10, a11, a12, a13, a14, a15, a16, a17, a18, a19) h
def rs_b20 {α1 α2 α3 α4 α5 α6 α7 α8 α9 α10 α11 α12 α13 α14 α15 α16 α17 α18 α19 α20 ζ : Type} (o : Option (α1 × α2 × α3 × α4 × α5 × α6 × α7 × α8 × α9 × α10 × α11 × α12 × α13 × α14 × α15 × α16 × α17 × α18 × α19 × α20)) (k : α1 → α2 → α3 → α4 → α5 → α6 → α7 → α8 → α9 → α10 → α11 → α12 → α13 → α14 → α15 → α16 → α17 → α18 → α19 → α20 → Option ζ) : Option ζ := match o with
  | none => none
  | some (a1, a2, a3, a4, a5, a6, a7, a8, a9, a10, a11, a12, a13, a14, a15, a16, a17, a18, a19, a20) => k a1 a2 a3 a4 a5 a6 a7 a8 a9 a10 a11 a12 a13 a14 a15 a16 a17 a18 a19 a20
theorem rs_b20s {α1 α2 α3 α4 α5 α6 α7 α8 α9 α10 α11 α12 α13 α14 α15 α16 α17 α18 α19 α20 ζ : Type} {o : Option (α1 × α2 × α3 × α4 × α5 × α6 × α7 × α8 × α9 × α10 × α11 × α12 × α13 × α14 × α15 × α16 × α17 × α18 × α19 × α20)} {k : α1 → α2 → α3 → α4 → α5 → α6 → α7 → α8 → α9 → α10 → α11 → α12 → α13 → α14 → α15 → α16 → α17 → α18 → α19 → α20 → Option ζ} {Z : ζ} (h : rs_b20 o k = some Z) : ∃ X, o = some X ∧ (∀ a1 a2 a3 a4 a5 a6 a7 a8 a9 a10 a11 a12 a13 a14 a15 a16 a17 a18 a19 a20, X = (a1, a2, a3, a4, a5, a6, a7, a8, a9, a10, a11, a12, a13, a14, a15, a16, a17, a18, a19, a20) → k a1 a2 a3 a4 a5 a6 a7 a8 a9 a10 a11 a12 a13 a14 a15 a16 a17 a18 a19 a20 = some Z) := by
  cases o with
  | none => cases h
  | some a => exact ⟨a, rfl, fun a1 a2 a3 a4 a5 a6 a7 a8 a9 a10 a11 a12 a13 a14 a15 a16 a17 a18 a19 a20 e => by subst e; exact h⟩
def rs_m20 {α1 α2 α3 α4 α5 α6 α7 α8 α9 α10 α11 α12 α13 α14 α15 α16 α17 α18 α19 α20 ζ : Type} (o : Option ((α1 × α2 × α3 × α4 × α5 × α6 × α7 × α8 × α9 × α10 × α11 × α12 × α13 × α14 × α15 × α16 × α17 × α18 × α19 × α20) ⊕ ζ)) (k : α1 → α2 → α3 → α4 → α5 → α6 → α7 → α8 → α9 → α10 → α11 → α12 → α13 → α14 → α15 → α16 → α17 → α18 → α19 → α20 → Option ζ) : Option ζ := match o with
  | none => none
  | some (.inl (a1, a2, a3, a4, a5, a6, a7, a8, a9, a10, a11, a12, a13, a14, a15, a16, a17, a18, a19, a20)) => k a1 a2 a3 a4 a5 a6 a7 a8 a9 a10 a11 a12 a13 a14 a15 a16 a17 a18 a19 a20
  | some (.inr z) => some z
theorem rs_m20s {α1 α2 α3 α4 α5 α6 α7 α8 α9 α10 α11 α12 α13 α14 α15 α16 α17 α18 α19 α20 ζ : Type} {o : Option ((α1 × α2 × α3 × α4 × α5 × α6 × α7 × α8 × α9 × α10 × α11 × α12 × α13 × α14 × α15 × α16 × α17 × α18 × α19 × α20) ⊕ ζ)} {k : α1 → α2 → α3 → α4 → α5 → α6 → α7 → α8 → α9 → α10 → α11 → α12 → α13 → α14 → α15 → α16 → α17 → α18 → α19 → α20 → Option ζ} {Z : ζ} (h : rs_m20 o k = some Z) : ∃ X, o = some X ∧ (∀ a1 a2 a3 a4 a5 a6 a7 a8 a9 a10 a11 a12 a13 a14 a15 a16 a17 a18 a19 a20, X = .inl (a1, a2, a3, a4, a5, a6, a7, a8, a9, a10, a11, a12, a13, a14, a15, a16, a17, a18, a19, a20) → k a1 a2 a3 a4 a5 a6 a7 a8 a9 a10 a11 a12 a13 a14 a15 a16 a17 a18 a19 a20 = some Z) ∧ (∀ r, X = .inr r → some r = some Z) := by
  cases o with
  | none => cases h
  | some a =>
    cases a with
    | inl a => exact ⟨_, rfl, fun a1 a2 a3 a4 a5 a6 a7 a8 a9 a10 a11 a12 a13 a14 a15 a16 a17 a18 a19 a20 e => (by cases e; exact h), fun r e => (by cases e)⟩
    | inr r => exact ⟨_, rfl, fun a1 a2 a3 a4 a5 a6 a7 a8 a9 a10 a11 a12 a13 a14 a15 a16 a17 a18 a19 a20 e => (by cases e), fun r2 e => (by cases e; exact h)⟩
def rs_l20 {α1 α2 α3 α4 α5 α6 α7 α8 α9 α10 α11 α12 α13 α14 α15 α16 α17 α18 α19 α20 ρ : Type} (body : α1 → α2 → α3 → α4 → α5 → α6 → α7 → α8 → α9 → α10 → α11 → α12 → α13 → α14 → α15 → α16 → α17 → α18 → α19 → α20 → Option ((α1 × α2 × α3 × α4 × α5 × α6 × α7 × α8 × α9 × α10 × α11 × α12 × α13 × α14 × α15 × α16 × α17 × α18 × α19 × α20) ⊕ ρ)) (N : Nat) (a1 : α1) (a2 : α2) (a3 : α3) (a4 : α4) (a5 : α5) (a6 : α6) (a7 : α7) (a8 : α8) (a9 : α9) (a10 : α10) (a11 : α11) (a12 : α12) (a13 : α13) (a14 : α14) (a15 : α15) (a16 : α16) (a17 : α17) (a18 : α18) (a19 : α19) (a20 : α20) : Option ρ := rs_loop (fun s : (α1 × α2 × α3 × α4 × α5 × α6 × α7 × α8 × α9 × α10 × α11 × α12 × α13 × α14 × α15 × α16 × α17 × α18 × α19 × α20) => body s.1 s.2.1 s.2.2.1 s.2.2.2.1 s.2.2.2.2.1 s.2.2.2.2.2.1 s.2.2.2.2.2.2.1 s.2.2.2.2.2.2.2.1 s.2.2.2.2.2.2.2.2.1 s.2.2.2.2.2.2.2.2.2.1 s.2.2.2.2.2.2.2.2.2.2.1 s.2.2.2.2.2.2.2.2.2.2.2.1 s.2.2.2.2.2.2.2.2.2.2.2.2.1 s.2.2.2.2.2.2.2.2.2.2.2.2.2.1 s.2.2.2.2.2.2.2.2.2.2.2.2.2.2.1 s.2.2.2.2.2.2.2.2.2.2.2.2.2.2.2.1 s.2.2.2.2.2.2.2.2.2.2.2.2.2.2.2.2.1 s.2.2.2.2.2.2.2.2.2.2.2.2.2.2.2.2.2.1 s.2.2.2.2.2.2.2.2.2.2.2.2.2.2.2.2.2.2.1 s.2.2.2.2.2.2.2.2.2.2.2.2.2.2.2.2.2.2.2) N (a1, a2, a3, a4, a5, a6, a7, a8, a9, a10, a11, a12, a13, a14, a15, a16, a17, a18, a19, a20)
theorem rs_l20W {α1 α2 α3 α4 α5 α6 α7 α8 α9 α10 α11 α12 α13 α14 α15 α16 α17 α18 α19 α20 ρ : Type} {body : α1 → α2 → α3 → α4 → α5 → α6 → α7 → α8 → α9 → α10 → α11 → α12 → α13 → α14 → α15 → α16 → α17 → α18 → α19 → α20 → Option ((α1 × α2 × α3 × α4 × α5 × α6 × α7 × α8 × α9 × α10 × α11 × α12 × α13 × α14 × α15 × α16 × α17 × α18 × α19 × α20) ⊕ ρ)} {Wd : α1 → α2 → α3 → α4 → α5 → α6 → α7 → α8 → α9 → α10 → α11 → α12 → α13 → α14 → α15 → α16 → α17 → α18 → α19 → α20 → Prop} {X : ρ} (step : ∀ a1 a2 a3 a4 a5 a6 a7 a8 a9 a10 a11 a12 a13 a14 a15 a16 a17 a18 a19 a20 o, body a1 a2 a3 a4 a5 a6 a7 a8 a9 a10 a11 a12 a13 a14 a15 a16 a17 a18 a19 a20 = some o → (∀ a12 a22 a32 a42 a52 a62 a72 a82 a92 a102 a112 a122 a132 a142 a152 a162 a172 a182 a192 a202, o = .inl (a12, a22, a32, a42, a52, a62, a72, a82, a92, a102, a112, a122, a132, a142, a152, a162, a172, a182, a192, a202) → Wd a12 a22 a32 a42 a52 a62 a72 a82 a92 a102 a112 a122 a132 a142 a152 a162 a172 a182 a192 a202) → (∀ r, o = .inr r → X = r) → Wd a1 a2 a3 a4 a5 a6 a7 a8 a9 a10 a11 a12 a13 a14 a15 a16 a17 a18 a19 a20) (N : Nat) (a1 : α1) (a2 : α2) (a3 : α3) (a4 : α4) (a5 : α5) (a6 : α6) (a7 : α7) (a8 : α8) (a9 : α9) (a10 : α10) (a11 : α11) (a12 : α12) (a13 : α13) (a14 : α14) (a15 : α15) (a16 : α16) (a17 : α17) (a18 : α18) (a19 : α19) (a20 : α20) (h : rs_l20 body N a1 a2 a3 a4 a5 a6 a7 a8 a9 a10 a11 a12 a13 a14 a15 a16 a17 a18 a19 a20 = some X) : Wd a1 a2 a3 a4 a5 a6 a7 a8 a9 a10 a11 a12 a13 a14 a15 a16 a17 a18 a19 a20 :=
  rs_loopW (body := fun s : (α1 × α2 × α3 × α4 × α5 × α6 × α7 × α8 × α9 × α10 × α11 × α12 × α13 × α14 × α15 × α16 × α17 × α18 × α19 × α20) => body s.1 s.2.1 s.2.2.1 s.2.2.2.1 s.2.2.2.2.1 s.2.2.2.2.2.1 s.2.2.2.2.2.2.1 s.2.2.2.2.2.2.2.1 s.2.2.2.2.2.2.2.2.1 s.2.2.2.2.2.2.2.2.2.1 s.2.2.2.2.2.2.2.2.2.2.1 s.2.2.2.2.2.2.2.2.2.2.2.1 s.2.2.2.2.2.2.2.2.2.2.2.2.1 s.2.2.2.2.2.2.2.2.2.2.2.2.2.1 s.2.2.2.2.2.2.2.2.2.2.2.2.2.2.1 s.2.2.2.2.2.2.2.2.2.2.2.2.2.2.2.1 s.2.2.2.2.2.2.2.2.2.2.2.2.2.2.2.2.1 s.2.2.2.2.2.2.2.2.2.2.2.2.2.2.2.2.2.1 s.2.2.2.2.2.2.2.2.2.2.2.2.2.2.2.2.2.2.1 s.2.2.2.2.2.2.2.2.2.2.2.2.2.2.2.2.2.2.2) (Wd := fun s => Wd s.1 s.2.1 s.2.2.1 s.2.2.2.1 s.2.2.2.2.1 s.2.2.2.2.2.1 s.2.2.2.2.2.2.1 s.2.2.2.2.2.2.2.1 s.2.2.2.2.2.2.2.2.1 s.2.2.2.2.2.2.2.2.2.1 s.2.2.2.2.2.2.2.2.2.2.1 s.2.2.2.2.2.2.2.2.2.2.2.1 s.2.2.2.2.2.2.2.2.2.2.2.2.1 s.2.2.2.2.2.2.2.2.2.2.2.2.2.1 s.2.2.2.2.2.2.2.2.2.2.2.2.2.2.1 s.2.2.2.2.2.2.2.2.2.2.2.2.2.2.2.1 s.2.2.2.2.2.2.2.2.2.2.2.2.2.2.2.2.1 s.2.2.2.2.2.2.2.2.2.2.2.2.2.2.2.2.2.1 s.2.2.2.2.2.2.2.2.2.2.2.2.2.2.2.2.2.2.1 s.2.2.2.2.2.2.2.2.2.2.2.2.2.2.2.2.2.2.2) (fun s o hb h1 h2 => step s.1 s.2.1 s.2.2.1 s.2.2.2.1 s.2.2.2.2.1 s.2.2.2.2.2.1 s.2.2.2.2.2.2.1 s.2.2.2.2.2.2.2.1 s.2.2.2.2.2.2.2.2.1 s.2.2.2.2.2.2.2.2.2.1 s.2.2.2.2.2.2.2.2.2.2.1 s.2.2.2.2.2.2.2.2.2.2.2.1 s.2.2.2.2.2.2.2.2.2.2.2.2.1 s.2.2.2.2.2.2.2.2.2.2.2.2.2.1 s.2.2.2.2.2.2.2.2.2.2.2.2.2.2.1 s.2.2.2.2.2.2.2.2.2.2.2.2.2.2.2.1 s.2.2.2.2.2.2.2.2.2.2.2.2.2.2.2.2.1 s.2.2.2.2.2.2.2.2.2.2.2.2.2.2.2.2.2.1 s.2.2.2.2.2.2.2.2.2.2.2.2.2.2.2.2.2.2.1 s.2.2.2.2.2.2.2.2.2.2.2.2.2.2.2.2.2.2.2 o hb (fun a12 a22 a32 a42 a52 a62 a72 a82 a92 a102 a112 a122 a132 a142 a152 a162 a172 a182 a192 a202 e => h1 _ e) h2) N (a1, a2, a3, a4, a5, a6, a7, a8, a9, a10, a11, a12, a13, a14, a15, a16, a17, a18, a19, a20) h
def rs_b21 {α1 α2 α3 α4 α5 α6 α7 α8 α9 α10 α11 α12 α13 α14 α15 α16 α17 α18 α19 α20 α21 ζ : Type} (o : Option (α1 × α2 × α3 × α4 × α5 × α6 × α7 × α8 × α9 × α10 × α11 × α12 × α13 × α14 × α15 × α16 × α17 × α18 × α19 × α20 × α21)) (k : α1 → α2 → α3 → α4 → α5 → α6 → α7 → α8 → α9 → α10 → α11 → α12 → α13 → α14 → α15 → α16 → α17 → α18 → α19 → α20 → α21 → Option ζ) : Option ζ := match o with
  | none => none
  | some (a1, a2, a3, a4, a5, a6, a7, a8, a9, a10, a11, a12, a13, a14, a15, a16, a17, a18, a19, a20, a21) => k a1 a2 a3 a4 a5 a6 a7 a8 a9 a10 a11 a12 a13 a14 a15 a16 a17 a18 a19 a20 a21
theorem rs_b21s {α1 α2 α3 α4 α5 α6 α7 α8 α9 α10 α11 α12 α13 α14 α15 α16 α17 α18 α19 α20 α21 ζ : Type} {o : Option (α1 × α2 × α3 × α4 × α5 × α6 × α7 × α8 × α9 × α10 × α11 × α12 × α13 × α14 × α15 × α16 × α17 × α18 × α19 × α20 × α21)} {k : α1 → α2 → α3 → α4 → α5 → α6 → α7 → α8 → α9 → α10 → α11 → α12 → α13 → α14 → α15 → α16 → α17 → α18 → α19 → α20 → α21 → Option ζ} {Z : ζ} (h : rs_b21 o k = some Z) : ∃ X, o = some X ∧ (∀ a1 a2 a3 a4 a5 a6 a7 a8 a9 a10 a11 a12 a13 a14 a15 a16 a17 a18 a19 a20 a21, X = (a1, a2, a3, a4, a5, a6, a7, a8, a9, a10, a11, a12, a13, a14, a15, a16, a17, a18, a19, a20, a21) → k a1 a2 a3 a4 a5 a6 a7 a8 a9 a10 a11 a12 a13 a14 a15 a16 a17 a18 a19 a20 a21 = some Z) := by
  cases o with
  | none => cases h
  | some a => exact ⟨a, rfl, fun a1 a2 a3 a4 a5 a6 a7 a8 a9 a10 a11 a12 a13 a14 a15 a16 a17 a18 a19 a20 a21 e => by subst e; exact h⟩
def rs_m21 {α1 α2 α3 α4 α5 α6 α7 α8 α9 α10 α11 α12 α13 α14 α15 α16 α17 α18 α19 α20 α21 ζ : Type} (o : Option ((α1 × α2 × α3 × α4 × α5 × α6 × α7 × α8 × α9 × α10 × α11 × α12 × α13 × α14 × α15 × α16 × α17 × α18 × α19 × α20 × α21) ⊕ ζ)) (k : α1 → α2 → α3 → α4 → α5 → α6 → α7 → α8 → α9 → α10 → α11 → α12 → α13 → α14 → α15 → α16 → α17 → α18 → α19 → α20 → α21 → Option ζ) : Option ζ := match o with
  | none => none
  | some (.inl (a1, a2, a3, a4, a5, a6, a7, a8, a9, a10, a11, a12, a13, a14, a15, a16, a17, a18, a19, a20, a21)) => k a1 a2 a3 a4 a5 a6 a7 a8 a9 a10 a11 a12 a13 a14 a15 a16 a17 a18 a19 a20 a21
  | some (.inr z) => some z
theorem rs_m21s {α1 α2 α3 α4 α5 α6 α7 α8 α9 α10 α11 α12 α13 α14 α15 α16 α17 α18 α19 α20 α21 ζ : Type} {o : Option ((α1 × α2 × α3 × α4 × α5 × α6 × α7 × α8 × α9 × α10 × α11 × α12 × α13 × α14 × α15 × α16 × α17 × α18 × α19 × α20 × α21) ⊕ ζ)} {k : α1 → α2 → α3 → α4 → α5 → α6 → α7 → α8 → α9 → α10 → α11 → α12 → α13 → α14 → α15 → α16 → α17 → α18 → α19 → α20 → α21 → Option ζ} {Z : ζ} (h : rs_m21 o k = some Z) : ∃ X, o = some X ∧ (∀ a1 a2 a3 a4 a5 a6 a7 a8 a9 a10 a11 a12 a13 a14 a15 a16 a17 a18 a19 a20 a21, X = .inl (a1, a2, a3, a4, a5, a6, a7, a8, a9, a10, a11, a12, a13, a14, a15, a16, a17, a18, a19, a20, a21) → k a1 a2 a3 a4 a5 a6 a7 a8 a9 a10 a11 a12 a13 a14 a15 a16 a17 a18 a19 a20 a21 = some Z) ∧ (∀ r, X = .inr r → some r = some Z) := by
  cases o with
  | none => cases h
  | some a =>
    cases a with
    | inl a => exact ⟨_, rfl, fun a1 a2 a3 a4 a5 a6 a7 a8 a9 a10 a11 a12 a13 a14 a15 a16 a17 a18 a19 a20 a21 e => (by cases e; exact h), fun r e => (by cases e)⟩
    | inr r => exact ⟨_, rfl, fun a1 a2 a3 a4 a5 a6 a7 a8 a9 a10 a11 a12 a13 a14 a15 a16 a17 a18 a19 a20 a21 e => (by cases e), fun r2 e => (by cases e; exact h)⟩
def rs_l21 {α1 α2 α3 α4 α5 α6 α7 α8 α9 α10 α11 α12 α13 α14 α15 α16 α17 α18 α19 α20 α21 ρ : Type} (body : α1 → α2 → α3 → α4 → α5 → α6 → α7 → α8 → α9 → α10 → α11 → α12 → α13 → α14 → α15 → α16 → α17 → α18 → α19 → α20 → α21 → Option ((α1 × α2 × α3 × α4 × α5 × α6 × α7 × α8 × α9 × α10 × α11 × α12 × α13 × α14 × α15 × α16 × α17 × α18 × α19 × α20 × α21) ⊕ ρ)) (N : Nat) (a1 : α1) (a2 : α2) (a3 : α3) (a4 : α4) (a5 : α5) (a6 : α6) (a7 : α7) (a8 : α8) (a9 : α9) (a10 : α10) (a11 : α11) (a12 : α12) (a13 : α13) (a14 : α14) (a15 : α15) (a16 : α16) (a17 : α17) (a18 : α18) (a19 : α19) (a20 : α20) (a21 : α21) : Option ρ := rs_loop (fun s : (α1 × α2 × α3 × α4 × α5 × α6 × α7 × α8 × α9 × α10 × α11 × α12 × α13 × α14 × α15 × α16 × α17 × α18 × α19 × α20 × α21) => body s.1 s.2.1 s.2.2.1 s.2.2.2.1 s.2.2.2.2.1 s.2.2.2.2.2.1 s.2.2.2.2.2.2.1 s.2.2.2.2.2.2.2.1 s.2.2.2.2.2.2.2.2.1 s.2.2.2.2.2.2.2.2.2.1 s.2.2.2.2.2.2.2.2.2.2.1 s.2.2.2.2.2.2.2.2.2.2.2.1 s.2.2.2.2.2.2.2.2.2.2.2.2.1 s.2.2.2.2.2.2.2.2.2.2.2.2.2.1 s.2.2.2.2.2.2.2.2.2.2.2.2.2.2.1 s.2.2.2.2.2.2.2.2.2.2.2.2.2.2.2.1 s.2.2.2.2.2.2.2.2.2.2.2.2.2.2.2.2.1 s.2.2.2.2.2.2.2.2.2.2.2.2.2.2.2.2.2.1 s.2.2.2.2.2.2.2.2.2.2.2.2.2.2.2.2.2.2.1 s.2.2.2.2.2.2.2.2.2.2.2.2.2.2.2.2.2.2.2.1 s.2.2.2.2.2.2.2.2.2.2.2.2.2.2.2.2.2.2.2.2) N (a1, a2, a3, a4, a5, a6, a7, a8, a9, a10, a11, a12, a13, a14, a15, a16, a17, a18, a19, a20, a21)
theorem rs_l21W {α1 α2 α3 α4 α5 α6 α7 α8 α9 α10 α11 α12 α13 α14 α15 α16 α17 α18 α19 α20 α21 ρ : Type} {body : α1 → α2 → α3 → α4 → α5 → α6 → α7 → α8 → α9 → α10 → α11 → α12 → α13 → α14 → α15 → α16 → α17 → α18 → α19 → α20 → α21 → Option ((α1 × α2 × α3 × α4 × α5 × α6 × α7 × α8 × α9 × α10 × α11 × α12 × α13 × α14 × α15 × α16 × α17 × α18 × α19 × α20 × α21) ⊕ ρ)} {Wd : α1 → α2 → α3 → α4 → α5 → α6 → α7 → α8 → α9 → α10 → α11 → α12 → α13 → α14 → α15 → α16 → α17 → α18 → α19 → α20 → α21 → Prop} {X : ρ} (step : ∀ a1 a2 a3 a4 a5 a6 a7 a8 a9 a10 a11 a12 a13 a14 a15 a16 a17 a18 a19 a20 a21 o, body a1 a2 a3 a4 a5 a6 a7 a8 a9 a10 a11 a12 a13 a14 a15 a16 a17 a18 a19 a20 a21 = some o → (∀ a12 a22 a32 a42 a52 a62 a72 a82 a92 a102 a112 a122 a132 a142 a152 a162 a172 a182 a192 a202 a212, o = .inl (a12, a22, a32, a42, a52, a62, a72, a82, a92, a102, a112, a122, a132, a142, a152, a162, a172, a182, a192, a202, a212) → Wd a12 a22 a32 a42 a52 a62 a72 a82 a92 a102 a112 a122 a132 a142 a152 a162 a172 a182 a192 a202 a212) → (∀ r, o = .inr r → X = r) → Wd a1 a2 a3 a4 a5 a6 a7 a8 a9 a10 a11 a12 a13 a14 a15 a16 a17 a18 a19 a20 a21) (N : Nat) (a1 : α1) (a2 : α2) (a3 : α3) (a4 : α4) (a5 : α5) (a6 : α6) (a7 : α7) (a8 : α8) (a9 : α9) (a10 : α10) (a11 : α11) (a12 : α12) (a13 : α13) (a14 : α14) (a15 : α15) (a16 : α16) (a17 : α17) (a18 : α18) (a19 : α19) (a20 : α20) (a21 : α21) (h : rs_l21 body N a1 a2 a3 a4 a5 a6 a7 a8 a9 a10 a11 a12 a13 a14 a15 a16 a17 a18 a19 a20 a21 = some X) : Wd a1 a2 a3 a4 a5 a6 a7 a8 a9 a10 a11 a12 a13 a14 a15 a16 a17 a18 a19 a20 a21 :=
  rs_loopW (body := fun s : (α1 × α2 × α3 × α4 × α5 × α6 × α7 × α8 × α9 × α10 × α11 × α12 × α13 × α14 × α15 × α16 × α17 × α18 × α19 × α20 × α21) => body s.1 s.2.1 s.2.2.1 s.2.2.2.1 s.2.2.2.2.1 s.2.2.2.2.2.1 s.2.2.2.2.2.2.1 s.2.2.2.2.2.2.2.1 s.2.2.2.2.2.2.2.2.1 s.2.2.2.2.2.2.2.2.2.1 s.2.2.2.2.2.2.2.2.2.2.1 s.2.2.2.2.2.2.2.2.2.2.2.1 s.2.2.2.2.2.2.2.2.2.2.2.2.1 s.2.2.2.2.2.2.2.2.2.2.2.2.2.1 s.2.2.2.2.2.2.2.2.2.2.2.2.2.2.1 s.2.2.2.2.2.2.2.2.2.2.2.2.2.2.2.1 s.2.2.2.2.2.2.2.2.2.2.2.2.2.2.2.2.1 s.2.2.2.2.2.2.2.2.2.2.2.2.2.2.2.2.2.1 s.2.2.2.2.2.2.2.2.2.2.2.2.2.2.2.2.2.2.1 s.2.2.2.2.2.2.2.2.2.2.2.2.2.2.2.2.2.2.2.1 s.2.2.2.2.2.2.2.2.2.2.2.2.2.2.2.2.2.2.2.2) (Wd := fun s => Wd s.1 s.2.1 s.2.2.1 s.2.2.2.1 s.2.2.2.2.1 s.2.2.2.2.2.1 s.2.2.2.2.2.2.1 s.2.2.2.2.2.2.2.1 s.2.2.2.2.2.2.2.2.1 s.2.2.2.2.2.2.2.2.2.1 s.2.2.2.2.2.2.2.2.2.2.1 s.2.2.2.2.2.2.2.2.2.2.2.1 s.2.2.2.2.2.2.2.2.2.2.2.2.1 s.2.2.2.2.2.2.2.2.2.2.2.2.2.1 s.2.2.2.2.2.2.2.2.2.2.2.2.2.2.1 s.2.2.2.2.2.2.2.2.2.2.2.2.2.2.2.1 s.2.2.2.2.2.2.2.2.2.2.2.2.2.2.2.2.1 s.2.2.2.2.2.2.2.2.2.2.2.2.2.2.2.2.2.1 s.2.2.2.2.2.2.2.2.2.2.2.2.2.2.2.2.2.2.1 s.2.2.2.2.2.2.2.2.2.2.2.2.2.2.2.2.2.2.2.1 s.2.2.2.2.2.2.2.2.2.2.2.2.2.2.2.2.2.2.2.2) (fun s o hb h1 h2 => step s.1 s.2.1 s.2.2.1 s.2.2.2.1 s.2.2.2.2.1 s.2.2.2.2.2.1 s.2.2.2.2.2.2.1 s.2.2.2.2.2.2.2.1 s.2.2.2.2.2.2.2.2.1 s.2.2.2.2.2.2.2.2.2.1 s.2.2.2.2.2.2.2.2.2.2.1 s.2.2.2.2.2.2.2.2.2.2.2.1 s.2.2.2.2.2.2.2.2.2.2.2.2.1 s.2.2.2.2.2.2.2.2.2.2.2.2.2.1 s.2.2.2.2.2.2.2.2.2.2.2.2.2.2.1 s.2.2.2.2.2.2.2.2.2.2.2.2.2.2.2.1 s.2.2.2.2.2.2.2.2.2.2.2.2.2.2.2.2.1 s.2.2.2.2.2.2.2.2.2.2.2.2.2.2.2.2.2.1 s.2.2.2.2.2.2.2.2.2.2.2.2.2.2.2.2.2.2.1 s.2.2.2.2.2.2.2.2.2.2.2.2.2.2.2.2.2.2.2.1 s.2.2.2.2.2.2.2.2.2.2.2.2.2.2.2.2.2.2.2.2 o hb (fun a12 a22 a32 a42 a52 a62 a72 a82 a92 a102 a112 a122 a132 a142 a152 a162 a172 a182 a192 a202 a212 e => h1 _ e) h2) N (a1, a2, a3, a4, a5, a6, a7, a8, a9, a10, a11, a12, a13, a14, a15, a16, a17, a18, a19, a20, a21) h
def rs_b22 {α1 α2 α3 α4 α5 α6 α7 α8 α9 α10 α11 α12 α13 α14 α15 α16 α17 α18 α19 α20 α21 α22 ζ : Type} (o : Option (α1 × α2 × α3 × α4 × α5 × α6 × α7 × α8 × α9 × α10 × α11 × α12 × α13 × α14 × α15 × α16 × α17 × α18 × α19 × α20 × α21 × α22)) (k : α1 → α2 → α3 → α4 → α5 → α6 → α7 → α8 → α9 → α10 → α11 → α12 → α13 → α14 → α15 → α16 → α17 → α18 → α19 → α20 → α21 → α22 → Option ζ) : Option ζ := match o with
  | none => none
  | some (a1, a2, a3, a4, a5, a6, a7, a8, a9, a10, a11, a12, a13, a14, a15, a16, a17, a18, a19, a20, a21, a22) => k a1 a2 a3 a4 a5 a6 a7 a8 a9 a10 a11 a12 a13 a14 a15 a16 a17 a18 a19 a20 a21 a22
theorem rs_b22s {α1 α2 α3 α4 α5 α6 α7 α8 α9 α10 α11 α12 α13 α14 α15 α16 α17 α18 α19 α20 α21 α22 ζ : Type} {o : Option (α1 × α2 × α3 × α4 × α5 × α6 × α7 × α8 × α9 × α10 × α11 × α12 × α13 × α14 × α15 × α16 × α17 × α18 × α19 × α20 × α21 × α22)} {k : α1 → α2 → α3 → α4 → α5 → α6 → α7 → α8 → α9 → α10 → α11 → α12 → α13 → α14 → α15 → α16 → α17 → α18 → α19 → α20 → α21 → α22 → Option ζ} {Z : ζ} (h : rs_b22 o k = some Z) : ∃ X, o = some X ∧ (∀ a1 a2 a3 a4 a5 a6 a7 a8 a9 a10 a11 a12 a13 a14 a15 a16 a17 a18 a19 a20 a21 a22, X = (a1, a2, a3, a4, a5, a6, a7, a8, a9, a10, a11, a12, a13, a14, a15, a16, a17, a18, a19, a20, a21, a22) → k a1 a2 a3 a4 a5 a6 a7 a8 a9 a10 a11 a12 a13 a14 a15 a16 a17 a18 a19 a20 a21 a22 = some Z) := by
  cases o with
  | none => cases h
  | some a => exact ⟨a, rfl, fun a1 a2 a3 a4 a5 a6 a7 a8 a9 a10 a11 a12 a13 a14 a15 a16 a17 a18 a19 a20 a21 a22 e => by subst e; exact h⟩
def rs_m22 {α1 α2 α3 α4 α5 α6 α7 α8 α9 α10 α11 α12 α13 α14 α15 α16 α17 α18 α19 α20 α21 α22 ζ : Type} (o : Option ((α1 × α2 × α3 × α4 × α5 × α6 × α7 × α8 × α9 × α10 × α11 × α12 × α13 × α14 × α15 × α16 × α17 × α18 × α19 × α20 × α21 × α22) ⊕ ζ)) (k : α1 → α2 → α3 → α4 → α5 → α6 → α7 → α8 → α9 → α10 → α11 → α12 → α13 → α14 → α15 → α16 → α17 → α18 → α19 → α20 → α21 → α22 → Option ζ) : Option ζ := match o with
  | none => none
  | some (.inl (a1, a2, a3, a4, a5, a6, a7, a8, a9, a10, a11, a12, a13, a14, a15, a16, a17, a18, a19, a20, a21, a22)) => k a1 a2 a3 a4 a5 a6 a7 a8 a9 a10 a11 a12 a13 a14 a15 a16 a17 a18 a19 a20 a21 a22
  | some (.inr z) => some z
theorem rs_m22s {α1 α2 α3 α4 α5 α6 α7 α8 α9 α10 α11 α12 α13 α14 α15 α16 α17 α18 α19 α20 α21 α22 ζ : Type} {o : Option ((α1 × α2 × α3 × α4 × α5 × α6 × α7 × α8 × α9 × α10 × α11 × α12 × α13 × α14 × α15 × α16 × α17 × α18 × α19 × α20 × α21 × α22) ⊕ ζ)} {k : α1 → α2 → α3 → α4 → α5 → α6 → α7 → α8 → α9 → α10 → α11 → α12 → α13 → α14 → α15 → α16 → α17 → α18 → α19 → α20 → α21 → α22 → Option ζ} {Z : ζ} (h : rs_m22 o k = some Z) : ∃ X, o = some X ∧ (∀ a1 a2 a3 a4 a5 a6 a7 a8 a9 a10 a11 a12 a13 a14 a15 a16 a17 a18 a19 a20 a21 a22, X = .inl (a1, a2, a3, a4, a5, a6, a7, a8, a9, a10, a11, a12, a13, a14, a15, a16, a17, a18, a19, a20, a21, a22) → k a1 a2 a3 a4 a5 a6 a7 a8 a9 a10 a11 a12 a13 a14 a15 a16 a17 a18 a19 a20 a21 a22 = some Z) ∧ (∀ r, X = .inr r → some r = some Z) := by
  cases o with
  | none => cases h
  | some a =>
    cases a with
    | inl a => exact ⟨_, rfl, fun a1 a2 a3 a4 a5 a6 a7 a8 a9 a10 a11 a12 a13 a14 a15 a16 a17 a18 a19 a20 a21 a22 e => (by cases e; exact h), fun r e => (by cases e)⟩
    | inr r => exact ⟨_, rfl, fun a1 a2 a3 a4 a5 a6 a7 a8 a9 a10 a11 a12 a13 a14 a15 a16 a17 a18 a19 a20 a21 a22 e => (by cases e), fun r2 e => (by cases e; exact h)⟩
def rs_l22 {α1 α2 α3 α4 α5 α6 α7 α8 α9 α10 α11 α12 α13 α14 α15 α16 α17 α18 α19 α20 α21 α22 ρ : Type} (body : α1 → α2 → α3 → α4 → α5 → α6 → α7 → α8 → α9 → α10 → α11 → α12 → α13 → α14 → α15 → α16 → α17 → α18 → α19 → α20 → α21 → α22 → Option ((α1 × α2 × α3 × α4 × α5 × α6 × α7 × α8 × α9 × α10 × α11 × α12 × α13 × α14 × α15 × α16 × α17 × α18 × α19 × α20 × α21 × α22) ⊕ ρ)) (N : Nat) (a1 : α1) (a2 : α2) (a3 : α3) (a4 : α4) (a5 : α5) (a6 : α6) (a7 : α7) (a8 : α8) (a9 : α9) (a10 : α10) (a11 : α11) (a12 : α12) (a13 : α13) (a14 : α14) (a15 : α15) (a16 : α16) (a17 : α17) (a18 : α18) (a19 : α19) (a20 : α20) (a21 : α21) (a22 : α22) : Option ρ := rs_loop (fun s : (α1 × α2 × α3 × α4 × α5 × α6 × α7 × α8 × α9 × α10 × α11 × α12 × α13 × α14 × α15 × α16 × α17 × α18 × α19 × α20 × α21 × α22) => body s.1 s.2.1 s.2.2.1 s.2.2.2.1 s.2.2.2.2.1 s.2.2.2.2.2.1 s.2.2.2.2.2.2.1 s.2.2.2.2.2.2.2.1 s.2.2.2.2.2.2.2.2.1 s.2.2.2.2.2.2.2.2.2.1 s.2.2.2.2.2.2.2.2.2.2.1 s.2.2.2.2.2.2.2.2.2.2.2.1 s.2.2.2.2.2.2.2.2.2.2.2.2.1 s.2.2.2.2.2.2.2.2.2.2.2.2.2.1 s.2.2.2.2.2.2.2.2.2.2.2.2.2.2.1 s.2.2.2.2.2.2.2.2.2.2.2.2.2.2.2.1 s.2.2.2.2.2.2.2.2.2.2.2.2.2.2.2.2.1 s.2.2.2.2.2.2.2.2.2.2.2.2.2.2.2.2.2.1 s.2.2.2.2.2.2.2.2.2.2.2.2.2.2.2.2.2.2.1 s.2.2.2.2.2.2.2.2.2.2.2.2.2.2.2.2.2.2.2.1 s.2.2.2.2.2.2.2.2.2.2.2.2.2.2.2.2.2.2.2.2.1 s.2.2.2.2.2.2.2.2.2.2.2.2.2.2.2.2.2.2.2.2.2) N (a1, a2, a3, a4, a5, a6, a7, a8, a9, a10, a11, a12, a13, a14, a15, a16, a17, a18, a19, a20, a21, a22)
theorem rs_l22W {α1 α2 α3 α4 α5 α6 α7 α8 α9 α10 α11 α12 α13 α14 α15 α16 α17 α18 α19 α20 α21 α22 ρ : Type} {body : α1 → α2 → α3 → α4 → α5 → α6 → α7 → α8 → α9 → α10 → α11 → α12 → α13 → α14 → α15 → α16 → α17 → α18 → α19 → α20 → α21 → α22 → Option ((α1 × α2 × α3 × α4 × α5 × α6 × α7 × α8 × α9 × α10 × α11 × α12 × α13 × α14 × α15 × α16 × α17 × α18 × α19 × α20 × α21 × α22) ⊕ ρ)} {Wd : α1 → α2 → α3 → α4 → α5 → α6 → α7 → α8 → α9 → α10 → α11 → α12 → α13 → α14 → α15 → α16 → α17 → α18 → α19 → α20 → α21 → α22 → Prop} {X : ρ} (step : ∀ a1 a2 a3 a4 a5 a6 a7 a8 a9 a10 a11 a12 a13 a14 a15 a16 a17 a18 a19 a20 a21 a22 o, body a1 a2 a3 a4 a5 a6 a7 a8 a9 a10 a11 a12 a13 a14 a15 a16 a17 a18 a19 a20 a21 a22 = some o → (∀ a12 a22 a32 a42 a52 a62 a72 a82 a92 a102 a112 a122 a132 a142 a152 a162 a172 a182 a192 a202 a212 a222, o = .inl (a12, a22, a32, a42, a52, a62, a72, a82, a92, a102, a112, a122, a132, a142, a152, a162, a172, a182, a192, a202, a212, a222) → Wd a12 a22 a32 a42 a52 a62 a72 a82 a92 a102 a112 a122 a132 a142 a152 a162 a172 a182 a192 a202 a212 a222) → (∀ r, o = .inr r → X = r) → Wd a1 a2 a3 a4 a5 a6 a7 a8 a9 a10 a11 a12 a13 a14 a15 a16 a17 a18 a19 a20 a21 a22) (N : Nat) (a1 : α1) (a2 : α2) (a3 : α3) (a4 : α4) (a5 : α5) (a6 : α6) (a7 : α7) (a8 : α8) (a9 : α9) (a10 : α10) (a11 : α11) (a12 : α12) (a13 : α13) (a14 : α14) (a15 : α15) (a16 : α16) (a17 : α17) (a18 : α18) (a19 : α19) (a20 : α20) (a21 : α21) (a22 : α22) (h : rs_l22 body N a1 a2 a3 a4 a5 a6 a7 a8 a9 a10 a11 a12 a13 a14 a15 a16 a17 a18 a19 a20 a21 a22 = some X) : Wd a1 a2 a3 a4 a5 a6 a7 a8 a9 a10 a11 a12 a13 a14 a15 a16 a17 a18 a19 a20 a21 a22 :=
  rs_loopW (body := fun s : (α1 × α2 × α3 × α4 × α5 × α6 × α7 × α8 × α9 × α10 × α11 × α12 × α13 × α14 × α15 × α16 × α17 × α18 × α19 × α20 × α21 × α22) => body s.1 s.2.1 s.2.2.1 s.2.2.2.1 s.2.2.2.2.1 s.2.2.2.2.2.1 s.2.2.2.2.2.2.1 s.2.2.2.2.2.2.2.1 s.2.2.2.2.2.2.2.2.1 s.2.2.2.2.2.2.2.2.2.1 s.2.2.2.2.2.2.2.2.2.2.1 s.2.2.2.2.2.2.2.2.2.2.2.1 s.2.2.2.2.2.2.2.2.2.2.2.2.1 s.2.2.2.2.2.2.2.2.2.2.2.2.2.1 s.2.2.2.2.2.2.2.2.2.2.2.2.2.2.1 s.2.2.2.2.2.2.2.2.2.2.2.2.2.2.2.1 s.2.2.2.2.2.2.2.2.2.2.2.2.2.2.2.2.1 s.2.2.2.2.2.2.2.2.2.2.2.2.2.2.2.2.2.1 s.2.2.2.2.2.2.2.2.2.2.2.2.2.2.2.2.2.2.1 s.2.2.2.2.2.2.2.2.2.2.2.2.2.2.2.2.2.2.2.1 s.2.2.2.2.2.2.2.2.2.2.2.2.2.2.2.2.2.2.2.2.1 s.2.2.2.2.2.2.2.2.2.2.2.2.2.2.2.2.2.2.2.2.2) (Wd := fun s => Wd s.1 s.2.1 s.2.2.1 s.2.2.2.1 s.2.2.2.2.1 s.2.2.2.2.2.1 s.2.2.2.2.2.2.1 s.2.2.2.2.2.2.2.1 s.2.2.2.2.2.2.2.2.1 s.2.2.2.2.2.2.2.2.2.1 s.2.2.2.2.2.2.2.2.2.2.1 s.2.2.2.2.2.2.2.2.2.2.2.1 s.2.2.2.2.2.2.2.2.2.2.2.2.1 s.2.2.2.2.2.2.2.2.2.2.2.2.2.1 s.2.2.2.2.2.2.2.2.2.2.2.2.2.2.1 s.2.2.2.2.2.2.2.2.2.2.2.2.2.2.2.1 s.2.2.2.2.2.2.2.2.2.2.2.2.2.2.2.2.1 s.2.2.2.2.2.2.2.2.2.2.2.2.2.2.2.2.2.1 s.2.2.2.2.2.2.2.2.2.2.2.2.2.2.2.2.2.2.1 s.2.2.2.2.2.2.2.2.2.2.2.2.2.2.2.2.2.2.2.1 s.2.2.2.2.2.2.2.2.2.2.2.2.2.2.2.2.2.2.2.2.1 s.2.2.2.2.2.2.2.2.2.2.2.2.2.2.2.2.2.2.2.2.2) (fun s o hb h1 h2 => step s.1 s.2.1 s.2.2.1 s.2.2.2.1 s.2.2.2.2.1 s.2.2.2.2.2.1 s.2.2.2.2.2.2.1 s.2.2.2.2.2.2.2.1 s.2.2.2.2.2.2.2.2.1 s.2.2.2.2.2.2.2.2.2.1 s.2.2.2.2.2.2.2.2.2.2.1 s.2.2.2.2.2.2.2.2.2.2.2.1 s.2.2.2.2.2.2.2.2.2.2.2.2.1 s.2.2.2.2.2.2.2.2.2.2.2.2.2.1 s.2.2.2.2.2.2.2.2.2.2.2.2.2.2.1 s.2.2.2.2.2.2.2.2.2.2.2.2.2.2.2.1 s.2.2.2.2.2.2.2.2.2.2.2.2.2.2.2.2.1 s.2.2.2.2.2.2.2.2.2.2.2.2.2.2.2.2.2.1 s.2.2.2.2.2.2.2.2.2.2.2.2.2.2.2.2.2.2.1 s.2.2.2.2.2.2.2.2.2.2.2.2.2.2.2.2.2.2.2.1 s.2.2.2.2.2.2.2.2.2.2.2.2.2.2.2.2.2.2.2.2.1 s.2.2.2.2.2.2.2.2.2.2.2.2.2.2.2.2.2.2.2.2.2 o hb (fun a12 a22 a32 a42 a52 a62 a72 a82 a92 a102 a112 a122 a132 a142 a152 a162 a172 a182 a192 a202 a212 a222 e => h1 _ e) h2) N (a1, a2, a3, a4, a5, a6, a7, a8, a9, a10, a11, a12, a13, a14, a15, a16, a17, a18, a19, a20, a21, a22) h
