-- methods that make cells: a contract whose world grows
def rs_Cn (l : Launch) (y : MethodName) (ws : List Cond) (rm : Room) (G : rs_G) {τ : Type} (av : List Value) (wc : va_W) (wc2 : τ → va_W) (mc ms : Nat) : Prop := ∀ sz : Nat, Met l y ws rm (va_Pc av (rs_B G sz wc)) (va_Qv (fun (_ : τ) => True) (fun u t => va_P G.1 vwCl (wc2 u) t.heap ∧ va_D (va_A wc sz) (wc2 u)) (va_A wc sz)) mc ms (va_A wc sz)
theorem rs_enter_n {l : Launch} {y : MethodName} {ws ws2 : List Cond} {rm : Room} {G : rs_G} {τ : Type} {av : List Value} {wc : va_W} {wc2 : τ → va_W} {mc ms : Nat} {cc : ByteArray} {maxL : Nat} (hy : plainName y.cls = true) (hw : ws = Cond.code y cc maxL (none) :: ws2) (hlen : (lg_sl av).length ≤ maxL)
    (body : ∀ (p : Program) (e : Env) (s : State) (m : MethodId) (args : Array Value) (below : List Frame) (meth : Method) (c : Code) (A : Nat → Prop) (Q : State → Prop) (ls : Array Slot), rs_E p s m c args cc maxL ws y.cls G → meth.name = y.name → (∀ (u : τ) (H : Heap) (locs : List Loc) (pc : Nat) (ls : Array Slot), va_P G.1 vwCl (wc2 u) H → va_D A (wc2 u) → va_S A s.heap H locs → decode cc pc = .ok (.return_, 1) → W p l e rm s m args below meth c H locs mc ms Q (F0 m pc ls [])) → va_P G.1 vwCl wc s.heap → va_D A wc → va_S A s.heap s.heap [] → (∀ q, s.heap.size ≤ q → A q) → lv_has ls maxL (lv_args 0 av) → W p l e rm s m args below meth c s.heap [] 0 0 Q (F0 m 0 ls [])) : rs_Cn l y ws rm G av wc wc2 mc ms := by
  intro sz
  refine Met.ofW hy hw ?_
  intro p e s m args below meth c s₁ B hml hv
  obtain ⟨rfl, hsz, hP, hK, hD0⟩ := hv
  subst hsz
  have hD := hD0.self (sz := s.heap.size)
  have hl := lv_entry av (n := maxL) hlen
  rw [lg_entry_eq]
  refine body p e s m _ below meth c (va_A wc s.heap.size) _ _ ⟨B.exec, B.bytes, hml, findClass_of_methodNamed B.named, atoms_spec B.pre, hK⟩ (name_of_methodNamed B.named B.method).1 (fun u H locs pc ls hP1 hD1 hS1 hd => W.vret B.exec B.bytes B.returns (fun t ht hW => ⟨⟨u, rfl, trivial, by show va_P G.1 vwCl (wc2 u) t.heap; rw [ht]; exact hP1, hD1⟩, hS1.F ht⟩) hS1.2.2 hd B.notSynchronized) hP hD va_S.rf (fun q h => Or.inr h) hl
theorem rs_newa {p : Program} {l : Launch} {e : Env} {R : Room} {s : State} {m : MethodId} {args : Array Value} {below : List Frame} {meth : Method} {c : Code} {H H0 : Heap} {locs : List Loc} {cells slots : Nat} {Q : State → Prop} {pc : Nat} {cc : ByteArray} {ls : Array Slot} {rest : List Value} {A : Nat → Prop} {G : rs_G} {ws : va_W} (hexec : p.tables.exec = Jvm.exec) (hb : c.code = cc) {atype : ArrayType} (harr : (Cond.arrayClass (newarray.typeOf atype)).before args s = true) {ty : FieldType} (hty : newarray.typeOf atype = ty) (hK : rs_K G s) (hP : va_P G.1 vwCl ws H) (hD : va_D A ws) (hS : va_S A H0 H locs) (hA : ∀ q, H0.size ≤ q → A q)
    {n : Int32} {N' : Nat} {a0 : vp_A} (t0 : Nat) {cA : ClassId} (ht : (rs_T G)[t0]? = some (cA, ty)) (ha : ∀ cA : ClassId, vp_cell cA a0 = arrV cA N' (fun _ => defaultValue ty)) (hn : ¬ n < 0) (hN : n.toNatClampNeg = N') (hbytes : N' * componentBytes ty ≤ 536870912) (hcells : cells + 1 ≤ R.cells) (hslots : slots + N' ≤ R.slots) (hdg : decode cc pc = .ok (.newarray atype, 2))
    (kk : ∀ (q : Nat) (H1 : Heap), va_P G.1 vwCl (ws ++ [(q, .inl (cA, a0))]) H1 → va_D A (ws ++ [(q, .inl (cA, a0))]) → va_S A H0 H1 locs →
      W p l e R s m args below meth c H1 locs (cells + 1) (slots + N') Q (F0 m (pc + 2) ls (.ref q :: rest))) : W p l e R s m args below meth c H locs cells slots Q (F0 m pc ls (.int n :: rest)) := by
  refine va_newa hexec hb harr hty hK.1 hP hD hS hA ha hn hN hbytes hcells hslots hdg (fun q cB H1 hK1 hP1 hD1 hS1 => ?_)
  have e1 := (hK.1.2 t0 _ ht).2
  have e2 := (hK1.2 (rs_T G).length (cB, ty) (by rw [List.getElem?_append_right (Nat.le_refl _), Nat.sub_self]; rfl)).2
  have : cB = cA := by
    subst hty
    cases atype <;> exact Option.some.inj (e2.symm.trans e1)
  subst this
  exact kk q H1 hP1 hD1 hS1
set_option maxHeartbeats 4000000 in
theorem rs_calln {p : Program} {l : Launch} {e : Env} {R : Room} {s : State} {m : MethodId} {args : Array Value} {below : List Frame} {meth : Method} {c : Code} {H H0 : Heap} {locs : List Loc} {cells slots mc ms : Nat} {Q : State → Prop} {pc : Nat} {ls : Array Slot} {rest st0 : List Value} {a : Array Value} {A : Nat → Prop} {τ : Type} {G : rs_G} {ws wc wr : va_W} {wc2 : τ → va_W}
    (hr : va_Run p l e R s m args below meth c H locs cells slots mc ms (F0 m pc ls st0) rest (va_Qv (fun (_ : τ) => True) (fun u t => va_P G.1 vwCl (wc2 u) t.heap ∧ va_D (va_A wc H.size) (wc2 u)) (va_A wc H.size) a) (va_A wc H.size)) (hP : va_P G.1 vwCl ws H) (hD : va_D A ws) (hS : va_S A H0 H locs) (hA : ∀ q, H0.size ≤ q → A q) (isC isR : List Nat) (hC : isC.map (fun i => ws[i]?) = wc.map some) (hR : isR.map (fun i => ws[i]?) = wr.map some) (hn : va_nd isR = true) (hdis : ∀ i ∈ isR, i ∉ isC)
    (kk : ∀ (u : τ) (H1 : Heap) (locs1 : List Loc), va_P G.1 vwCl (wr ++ wc2 u) H1 → va_D A (wr ++ wc2 u) → va_S A H0 H1 locs1 → W p l e R s m args below meth c H1 locs1 (cells + mc) (slots + ms) Q (F0 m (pc + 3) ls (rest))) : W p l e R s m args below meth c H locs cells slots Q (F0 m pc ls st0) := by
  have hFc := va_free (wc := wc) hD hS hA isC hC
  refine va_callv hr hS (fun q _ h => hFc q h) hFc (fun u t H1 locs1 ht hvm hw hB hz1 hk1 hS1 => ?_)
  obtain ⟨hB1, hB2⟩ := hB
  rw [ht] at hB1
  obtain ⟨h1, h2⟩ := va_join hP hD isC isR hC hR hn hdis hk1 hFc hB1 hB2
  exact kk u H1 locs1 h1 h2 hS1
set_option maxHeartbeats 4000000 in
theorem rs_callI {p : Program} {l : Launch} {e : Env} {R : Room} {s : State} {m : MethodId} {args : Array Value} {below : List Frame} {meth : Method} {c : Code} {H H0 : Heap} {locs : List Loc} {cells slots mc ms : Nat} {Q : State → Prop} {pc nL maxL n index : Nat} {cc bytes : ByteArray} {ls : Array Slot} {rest st0 As : List Value} {A : Nat → Prop} {τ : Type} {G : rs_G} {ws wc wr : va_W} {wc2 : τ → va_W} {Ts wsy : List Cond} {own : String} {y : MethodName} {rm : Room} {b : Addr} (S : CallFix p m c cc nL s args Ts own) (hM : rs_Cn l y wsy rm G (.ref b :: As) wc wc2 mc ms) (cw : CallB R s args own index y bytes maxL none wsy rm mc ms n ∧ y.name = "<init>" ∧ (Cond.instanceMethod y).before args s = true) (hdg : decode cc pc = .ok (.invokespecial index, 3)) (hK : rs_K G s) (hP : va_P G.1 vwCl ws H) (hD : va_D A ws) (hS : va_S A H0 H locs) (hA : ∀ q, H0.size ≤ q → A q) (isC isR : List Nat) (hC : isC.map (fun i => ws[i]?) = wc.map some) (hR : isR.map (fun i => ws[i]?) = wr.map some) (hnC : va_nd isC = true) (hnR : va_nd isR = true) (hdis : ∀ i ∈ isR, i ∉ isC) (hn : As.length = n) (hst : st0 = As.reverse ++ .ref b :: rest) (hsize : ls.size = nL) (hW : 2 * (F0 m pc ls st0).monitorRoom + (rest.map fun v => v.category).sum ≤ 8) (hf0 : cells + mc ≤ R.cells ∧ slots + ms ≤ R.slots)
    (kk : ∀ (u : τ) (H1 : Heap) (locs1 : List Loc), va_P G.1 vwCl (wr ++ wc2 u) H1 → va_D A (wr ++ wc2 u) → va_S A H0 H1 locs1 → W p l e R s m args below meth c H1 locs1 (cells + mc) (slots + ms) Q (F0 m (pc + 3) ls (rest))) : W p l e R s m args below meth c H locs cells slots Q (F0 m pc ls st0) := by
  have hPc := hP.sub (ws' := wc) isC (by have := congrArg (List.filterMap id) hC; simpa [List.filterMap_map] using this)
  have hDc := hD.sub (ws' := wc) isC hnC hC
  exact rs_calln (va_runI (As := As) (rest := rest) S (hM H.size) cw (rs_preS hPc hK hDc) rfl hn hsize hst hW hdg hf0) hP hD hS hA isC isR hC hR hnR hdis kk
set_option maxHeartbeats 4000000 in
theorem rs_callIN {p : Program} {l : Launch} {e : Env} {R : Room} {s : State} {m : MethodId} {args : Array Value} {below : List Frame} {meth : Method} {c : Code} {H H0 : Heap} {locs : List Loc} {cells slots mc ms : Nat} {Q : State → Prop} {pc nL maxL n index : Nat} {cc bytes : ByteArray} {ls : Array Slot} {rest st0 As : List Value} {A : Nat → Prop} {τ : Type} {G : rs_G} {ws wc wr : va_W} {wc2 : τ → va_W} {Ts wsy : List Cond} {own host : String} {y : MethodName} {rm : Room} {b : Addr} (S : CallFix p m c cc nL s args Ts own) (hM : rs_Cn l y wsy rm G (.ref b :: As) wc wc2 mc ms) (cw : va_CN R s args own index y host bytes maxL none wsy rm mc ms n ∧ y.name = "<init>" ∧ (Cond.instanceMethod y).before args s = true) (hdg : decode cc pc = .ok (.invokespecial index, 3)) (hK : rs_K G s) (hP : va_P G.1 vwCl ws H) (hD : va_D A ws) (hS : va_S A H0 H locs) (hA : ∀ q, H0.size ≤ q → A q) (isC isR : List Nat) (hC : isC.map (fun i => ws[i]?) = wc.map some) (hR : isR.map (fun i => ws[i]?) = wr.map some) (hnC : va_nd isC = true) (hnR : va_nd isR = true) (hdis : ∀ i ∈ isR, i ∉ isC) (hn : As.length = n) (hst : st0 = As.reverse ++ .ref b :: rest) (hsize : ls.size = nL) (hW : 2 * (F0 m pc ls st0).monitorRoom + (rest.map fun v => v.category).sum ≤ 8) (hf0 : cells + mc ≤ R.cells ∧ slots + ms ≤ R.slots)
    (kk : ∀ (u : τ) (H1 : Heap) (locs1 : List Loc), va_P G.1 vwCl (wr ++ wc2 u) H1 → va_D A (wr ++ wc2 u) → va_S A H0 H1 locs1 → W p l e R s m args below meth c H1 locs1 (cells + mc) (slots + ms) Q (F0 m (pc + 3) ls (rest))) : W p l e R s m args below meth c H locs cells slots Q (F0 m pc ls st0) := by
  have hPc := hP.sub (ws' := wc) isC (by have := congrArg (List.filterMap id) hC; simpa [List.filterMap_map] using this)
  have hDc := hD.sub (ws' := wc) isC hnC hC
  exact rs_calln (va_runIN (As := As) (rest := rest) S (hM H.size) cw (rs_preS hPc hK hDc) rfl hn hsize hst hW hdg hf0) hP hD hS hA isC isR hC hR hnR hdis kk
